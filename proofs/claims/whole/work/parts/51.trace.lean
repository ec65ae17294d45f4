/-! ===== Ways: the way itself, how many ===== -/
def onI (W H : Int) (c f : Int → Int) (z : Int) : Nat → Int
  | 0 => -1
  | m + 1 => if nbC W H z (3 - m) ≠ -1 ∧ f (nbC W H z (3 - m)) + c z = f z then nbC W H z (3 - m) else onI W H c f z m
theorem c106 {d : Nat} {k W H z : Int} {a p : Nat} {T : Tt} {σ : St} {Q : vmO → vmH → Prop} (ha : ob 10 a) (hp : ob 4 p) (hg : geo σ p W H) (h : wh2 W H) (hc : csIn (σ 1000 a) (W * H)) (hf : frIn (σ 1001 a)) (z0 : 0 ≤ z) (z1 : z < W * H) : Ca d k 106 [.ref a, .ref p, .int (i32 z)] (E T σ) Q = Q (.inl (some (.int (i32 (onI W H (σ 1000 a) (σ 1001 a) z 4))))) (E T σ) := by
  have ha3 := ob_lt ha
  have hp3 := ob_lt hp
  have hm := wh_mul h
  have hfar : far = 1000000000 := rfl
  obtain ⟨g1, g2, g3, g4, g5, g6⟩ := hg
  have hfz := hf z z0 (by omega)
  have hcz := hc z z0 z1
  have loop : ∀ (m : Nat) (l4 : Value), m ≤ 4 → Wp d M_X10_onward 4 [.ref a, .ref p, .int (i32 z), .int (i32 (4 * z + (4 - m))), l4] [] (E T σ) Q = Q (.inl (some (.int (i32 (onI W H (σ 1000 a) (σ 1001 a) z m))))) (E T σ) := by
    intro m
    induction m with
    | zero =>
      intro l4 _
      rw [w106_4]
      simp (disch := (first | assumption | omega | exact Nat.le_of_ble_eq_true rfl | rfl)) only [w106_0, w106_1, w106_2, w106_3, w106_5, w106_6, w106_7, w106_8, w106_9, w106_10, w106_13, w106_14, w106_17, w106_18, w106_19, w106_21, w106_23, w106_24, w106_27, w106_28, w106_31, w106_33, w106_34, w106_35, w106_38, w106_39, w106_40, w106_41, w106_42, w106_45, w106_46, w106_47, w106_50, w106_52, w106_53, w106_56, w106_59, w106_60, Ko_n, Ko_v, vX_i, vX_r, vX_l, vX_j, reduceIte, show (4 * z + (4 - ((0 : Nat) : Int))) = 4 * z + 4 by omega, Int.le_refl]
      rfl
    | succ m ih =>
      intro l4 hm4
      have hb := g6 z (3 - m) z0 z1 (by omega) (by omega)
      have e0 : (4 * z + (4 - ((m + 1 : Nat) : Int))) = 4 * z + (3 - (m : Int)) := by omega
      have e1 : (4 * z + (3 - (m : Int)) + 1) = 4 * z + (4 - (m : Int)) := by omega
      have ih' := fun l => ih l (by omega)
      rw [e0, w106_4]
      simp only [onI]
      by_cases hn : nbC W H z (3 - m) = -1
      · simp (disch := (first | assumption | omega | exact Nat.le_of_ble_eq_true rfl | rfl)) only [w106_0, w106_1, w106_2, w106_3, w106_5, w106_6, w106_7, w106_8, w106_9, w106_10, w106_13, w106_14, w106_17, w106_18, w106_19, w106_21, w106_23, w106_24, w106_27, w106_28, w106_31, w106_33, w106_34, w106_35, w106_38, w106_39, w106_40, w106_41, w106_42, w106_45, w106_46, w106_47, w106_50, w106_52, w106_53, w106_56, w106_59, w106_60, Ko_n, Ko_v, vX_i, vX_r, vX_l, vX_j, reduceIte, show ¬ (4 * z + 4 ≤ 4 * z + (3 - (m : Int))) by omega, hb, hn, e1, not_true, false_and, ne_eq]
        exact ih' _
      · have hi := nb_in h z0 z1 hn
        have hfn := hf _ hi.1 (by omega)
        by_cases hx : σ 1001 a (nbC W H z (3 - m)) + σ 1000 a z = σ 1001 a z
        · simp (disch := (first | assumption | omega | exact Nat.le_of_ble_eq_true rfl | rfl)) only [w106_0, w106_1, w106_2, w106_3, w106_5, w106_6, w106_7, w106_8, w106_9, w106_10, w106_13, w106_14, w106_17, w106_18, w106_19, w106_21, w106_23, w106_24, w106_27, w106_28, w106_31, w106_33, w106_34, w106_35, w106_38, w106_39, w106_40, w106_41, w106_42, w106_45, w106_46, w106_47, w106_50, w106_52, w106_53, w106_56, w106_59, w106_60, Ko_n, Ko_v, vX_i, vX_r, vX_l, vX_j, reduceIte, show ¬ (4 * z + 4 ≤ 4 * z + (3 - (m : Int))) by omega, hb, hn, hx, e1, not_true, not_false_eq_true, true_and, ne_eq]
        · simp (disch := (first | assumption | omega | exact Nat.le_of_ble_eq_true rfl | rfl)) only [w106_0, w106_1, w106_2, w106_3, w106_5, w106_6, w106_7, w106_8, w106_9, w106_10, w106_13, w106_14, w106_17, w106_18, w106_19, w106_21, w106_23, w106_24, w106_27, w106_28, w106_31, w106_33, w106_34, w106_35, w106_38, w106_39, w106_40, w106_41, w106_42, w106_45, w106_46, w106_47, w106_50, w106_52, w106_53, w106_56, w106_59, w106_60, Ko_n, Ko_v, vX_i, vX_r, vX_l, vX_j, reduceIte, show ¬ (4 * z + 4 ≤ 4 * z + (3 - (m : Int))) by omega, hb, hn, hx, e1, not_true, not_false_eq_true, true_and, and_false, ne_eq]
          exact ih' _
  rw [n106 _ _ _ _ _ _ _ _ ha]
  simp (disch := (first | assumption | omega | exact Nat.le_of_ble_eq_true rfl | rfl)) only [w106_0, w106_1, w106_2, w106_3, w106_5, w106_6, w106_7, w106_8, w106_9, w106_10, w106_13, w106_14, w106_17, w106_18, w106_19, w106_21, w106_23, w106_24, w106_27, w106_28, w106_31, w106_33, w106_34, w106_35, w106_38, w106_39, w106_40, w106_41, w106_42, w106_45, w106_46, w106_47, w106_50, w106_52, w106_53, w106_56, w106_59, w106_60, Ko_n, Ko_v, vX_i, vX_r, vX_l, vX_j, reduceIte]
  have := loop 4 vmJ (by omega)
  rw [show (4 * z + (4 - ((4 : Nat) : Int))) = 4 * z by omega] at this
  exact this
/-- cell by cell onward -/
def pt (W H : Int) (c f : Int → Int) (z : Int) : Nat → Int
  | 0 => z
  | n + 1 => onI W H c f (pt W H c f z n) 4
def rwI (r p : Nat → Int) (g : Int → Int) : Nat → Int → Int
  | 0 => fu g 0 (p 0)
  | n + 1 => fu (rwI r p g n) ((n + 1 : Nat) : Int) (p (n + 1))
theorem rwI_at {r p : Nat → Int} {g : Int → Int} (n i : Nat) (h : i ≤ n) : rwI r p g n i = p i := by
  induction n with
  | zero =>
    have : i = 0 := by omega
    rw [this]
    exact fu_s
  | succ n ih =>
    by_cases hi : i = n + 1
    · rw [hi]; exact fu_s
    · simp only [rwI]
      rw [fu_n (by omega)]
      exact ih (by omega)
theorem dj_frIn {W H : Int} {c g o : Int → Int} {z : Int} {N : Nat} (h : wh2 W H) (hc : csIn c (W * H)) (hN : (N : Int) = W * H) : frIn (spr W H c z N g o).1 := (dj_in h hc hN (x := (std c z g, (fun _ => false), o, 0)) std_in rfl N).1
theorem c105a {d : Nat} {k W H z t : Int} {a p N : Nat} {T : Tt} {σ : St} {Q : vmO → vmH → Prop} (ha : ob 10 a) (hp : ob 4 p) (hg : geo σ p W H) (h : wh2 W H) (hN : (N : Int) = W * H) (hc : csIn (σ 1000 a) (W * H)) (z0 : 0 ≤ z) (z1 : z < W * H) (t0 : 0 ≤ t) (t1 : t < W * H) (hno : ¬ (spr W H (σ 1000 a) t N (σ 1001 a) (σ 1005 a)).1 z < far) :
    Ca (d + 4) k 105 [.ref a, .ref p, .int (i32 z), .int (i32 t)] (E T σ) Q = Q (.inl (some (.int (i32 (-1))))) (E T (wyD σ a (spr W H (σ 1000 a) t N (σ 1001 a) (σ 1005 a)))) := by
  have ha3 := ob_lt ha
  have hp3 := ob_lt hp
  have hm := wh_mul h
  have hfar : far = 1000000000 := rfl
  have hfr := dj_frIn (c := σ 1000 a) (g := σ 1001 a) (o := σ 1005 a) (z := t) h hc hN z z0 (by omega)
  rw [n105 _ _ _ _ _ _ _ _ _ ha]
  simp (disch := (first | assumption | omega | exact Nat.le_of_ble_eq_true rfl | rfl)) only [w105_0, w105_1, w105_2, w105_3, w105_6, w105_7, w105_10, w105_11, w105_12, w105_14, w105_17, w105_18, w105_19, w105_20, w105_22, w105_23, w105_26, w105_27, w105_28, w105_29, w105_30, w105_34, w105_35, w105_38, w105_40, w105_42, w105_45, w105_46, w105_47, w105_49, w105_52, w105_54, w105_56, w105_57, w105_60, w105_61, w105_62, w105_65, w105_66, w105_69, w105_71, w105_73, w105_74, w105_77, w105_79, Ko_n, Ko_v, vX_i, vX_r, vX_l, vX_j, reduceIte]
  rw [c98 ha hp hg h hN hc t0 t1]
  unfold wyD
  simp (disch := (first | assumption | omega | exact Nat.le_of_ble_eq_true rfl | rfl)) only [w105_0, w105_1, w105_2, w105_3, w105_6, w105_7, w105_10, w105_11, w105_12, w105_14, w105_17, w105_18, w105_19, w105_20, w105_22, w105_23, w105_26, w105_27, w105_28, w105_29, w105_30, w105_34, w105_35, w105_38, w105_40, w105_42, w105_45, w105_46, w105_47, w105_49, w105_52, w105_54, w105_56, w105_57, w105_60, w105_61, w105_62, w105_65, w105_66, w105_69, w105_71, w105_73, w105_74, w105_77, w105_79, Ko_n, Ko_v, vX_i, vX_r, vX_l, vX_j, reduceIte, wy1]
  rw [if_neg (by omega)]
theorem c105b {d : Nat} {k W H z t : Int} {a p N m : Nat} {T : Tt} {σ : St} {Q : vmO → vmH → Prop} (ha : ob 10 a) (hp : ob 4 p) (hg : geo σ p W H) (h : wh2 W H) (hN : (N : Int) = W * H) (hc : csIn (σ 1000 a) (W * H)) (z0 : 0 ≤ z) (z1 : z < W * H) (t0 : 0 ≤ t) (t1 : t < W * H) (hno : (spr W H (σ 1000 a) t N (σ 1001 a) (σ 1005 a)).1 z < far) (hm36 : m ≤ 36)
    (hpt : ∀ i, i ≤ m → 0 ≤ pt W H (σ 1000 a) (spr W H (σ 1000 a) t N (σ 1001 a) (σ 1005 a)).1 z i ∧ pt W H (σ 1000 a) (spr W H (σ 1000 a) t N (σ 1001 a) (σ 1005 a)).1 z i < W * H) (hne : ∀ i, i < m → pt W H (σ 1000 a) (spr W H (σ 1000 a) t N (σ 1001 a) (σ 1005 a)).1 z i ≠ t) (hend : pt W H (σ 1000 a) (spr W H (σ 1000 a) t N (σ 1001 a) (σ 1005 a)).1 z m = t) :
    Ca (d + 4) k 105 [.ref a, .ref p, .int (i32 z), .int (i32 t)] (E T σ) Q = Q (.inl (some (.int (i32 m)))) (E T (upA (wyD σ a (spr W H (σ 1000 a) t N (σ 1001 a) (σ 1005 a))) 1003 a (rwI (fun _ => 0) (pt W H (σ 1000 a) (spr W H (σ 1000 a) t N (σ 1001 a) (σ 1005 a)).1 z) (σ 1003 a) m))) := by
  have ha3 := ob_lt ha
  have hp3 := ob_lt hp
  have hm := wh_mul h
  have hfar : far = 1000000000 := rfl
  have hfr := dj_frIn (c := σ 1000 a) (g := σ 1001 a) (o := σ 1005 a) (z := t) h hc hN
  rw [n105 _ _ _ _ _ _ _ _ _ ha]
  simp (disch := (first | assumption | omega | exact Nat.le_of_ble_eq_true rfl | rfl)) only [w105_0, w105_1, w105_2, w105_3, w105_6, w105_7, w105_10, w105_11, w105_12, w105_14, w105_17, w105_18, w105_19, w105_20, w105_22, w105_23, w105_26, w105_27, w105_28, w105_29, w105_30, w105_34, w105_35, w105_38, w105_40, w105_42, w105_45, w105_46, w105_47, w105_49, w105_52, w105_54, w105_56, w105_57, w105_60, w105_61, w105_62, w105_65, w105_66, w105_69, w105_71, w105_73, w105_74, w105_77, w105_79, Ko_n, Ko_v, vX_i, vX_r, vX_l, vX_j, reduceIte]
  rw [c98 ha hp hg h hN hc t0 t1]
  generalize hx : spr W H (σ 1000 a) t N (σ 1001 a) (σ 1005 a) = x at *
  have hfz := hfr z z0 (by omega)
  have loop : ∀ (m' n : Nat), n + m' = m → Wp (d + 4) M_X10_trace 32 [.ref a, .ref p, .int (i32 z), .int (i32 t), .int (i32 (pt W H (σ 1000 a) x.1 z n)), .int (i32 n)] [] (E T (upA (wyD σ a x) 1003 a (rwI (fun _ => 0) (pt W H (σ 1000 a) x.1 z) (σ 1003 a) n))) Q = Q (.inl (some (.int (i32 m)))) (E T (upA (wyD σ a x) 1003 a (rwI (fun _ => 0) (pt W H (σ 1000 a) x.1 z) (σ 1003 a) m))) := by
    intro m'
    induction m' with
    | zero =>
      intro n hn
      have hn : n = m := by omega
      subst hn
      have hp1 := hpt n (by omega)
      rw [w105_32]
      simp (disch := (first | assumption | omega | exact Nat.le_of_ble_eq_true rfl | rfl)) only [w105_0, w105_1, w105_2, w105_3, w105_6, w105_7, w105_10, w105_11, w105_12, w105_14, w105_17, w105_18, w105_19, w105_20, w105_22, w105_23, w105_26, w105_27, w105_28, w105_29, w105_30, w105_34, w105_35, w105_38, w105_40, w105_42, w105_45, w105_46, w105_47, w105_49, w105_52, w105_54, w105_56, w105_57, w105_60, w105_61, w105_62, w105_65, w105_66, w105_69, w105_71, w105_73, w105_74, w105_77, w105_79, Ko_n, Ko_v, vX_i, vX_r, vX_l, vX_j, reduceIte, hend]
    | succ m' ih =>
      intro n hn
      have hp1 := hpt n (by omega)
      have hp2 := hpt (n + 1) (by omega)
      have hp3 := hne n (by omega)
      have ih' := ih (n + 1) (by omega)
      rw [w105_32]
      simp (disch := (first | assumption | omega | exact Nat.le_of_ble_eq_true rfl | rfl)) only [w105_0, w105_1, w105_2, w105_3, w105_6, w105_7, w105_10, w105_11, w105_12, w105_14, w105_17, w105_18, w105_19, w105_20, w105_22, w105_23, w105_26, w105_27, w105_28, w105_29, w105_30, w105_34, w105_35, w105_38, w105_40, w105_42, w105_45, w105_46, w105_47, w105_49, w105_52, w105_54, w105_56, w105_57, w105_60, w105_61, w105_62, w105_65, w105_66, w105_69, w105_71, w105_73, w105_74, w105_77, w105_79, Ko_n, Ko_v, vX_i, vX_r, vX_l, vX_j, reduceIte, hp3, show ¬ (36 : Int) ≤ (n : Int) by omega]
      rw [c106 (σ := upA (wyD σ a x) 1003 a (rwI (fun _ => 0) (pt W H (σ 1000 a) x.1 z) (σ 1003 a) n)) ha hp (geo_t hg (by unfold wyD; simp (disch := omega) only [upA_t, wyt]) (by unfold wyD; simp (disch := omega) only [upA_t, wyt]) (by unfold wyD; simp (disch := omega) only [upA_t, wyt]) (by unfold wyD; simp (disch := omega) only [upA_t, wyt]) (by unfold wyD; simp (disch := omega) only [upA_t, wyt]) (by unfold wyD; simp (disch := omega) only [upA_t, wyt])) h (by unfold wyD; simp (disch := omega) only [upA_t, wyt]; exact hc) (by unfold wyD; simp (disch := omega) only [upA_t, wy1]; exact hfr) hp1.1 hp1.2]
      have e2 : onI W H (upA (wyD σ a x) 1003 a (rwI (fun _ => 0) (pt W H (σ 1000 a) x.1 z) (σ 1003 a) n) 1000 a) (upA (wyD σ a x) 1003 a (rwI (fun _ => 0) (pt W H (σ 1000 a) x.1 z) (σ 1003 a) n) 1001 a) (pt W H (σ 1000 a) x.1 z n) 4 = pt W H (σ 1000 a) x.1 z (n + 1) := by
        unfold wyD
        simp (disch := omega) only [upA_t, wyt, wy1]
        rfl
      rw [e2]
      simp (disch := (first | assumption | omega | exact Nat.le_of_ble_eq_true rfl | rfl)) only [w105_0, w105_1, w105_2, w105_3, w105_6, w105_7, w105_10, w105_11, w105_12, w105_14, w105_17, w105_18, w105_19, w105_20, w105_22, w105_23, w105_26, w105_27, w105_28, w105_29, w105_30, w105_34, w105_35, w105_38, w105_40, w105_42, w105_45, w105_46, w105_47, w105_49, w105_52, w105_54, w105_56, w105_57, w105_60, w105_61, w105_62, w105_65, w105_66, w105_69, w105_71, w105_73, w105_74, w105_77, w105_79, Ko_n, Ko_v, vX_i, vX_r, vX_l, vX_j, reduceIte, show ¬ pt W H (σ 1000 a) x.1 z (n + 1) = -1 by omega, not_false_eq_true, upA_s, upA_upA]
      exact ih'
  simp (disch := (first | assumption | omega | exact Nat.le_of_ble_eq_true rfl | rfl)) only [w105_0, w105_1, w105_2, w105_3, w105_6, w105_7, w105_10, w105_11, w105_12, w105_14, w105_17, w105_18, w105_19, w105_20, w105_22, w105_23, w105_26, w105_27, w105_28, w105_29, w105_30, w105_34, w105_35, w105_38, w105_40, w105_42, w105_45, w105_46, w105_47, w105_49, w105_52, w105_54, w105_56, w105_57, w105_60, w105_61, w105_62, w105_65, w105_66, w105_69, w105_71, w105_73, w105_74, w105_77, w105_79, Ko_n, Ko_v, vX_i, vX_r, vX_l, vX_j, reduceIte]
  have e1 : wyD σ a x 1001 a = x.1 := wy1
  have e3 : wyD σ a x 1003 a = σ 1003 a := by unfold wyD; exact wyt (by omega) (by omega) (by omega) (by omega)
  simp (disch := (first | assumption | omega | exact Nat.le_of_ble_eq_true rfl | rfl)) only [w105_11, e1]
  simp (disch := (first | assumption | omega | exact Nat.le_of_ble_eq_true rfl | rfl)) only [w105_0, w105_1, w105_2, w105_3, w105_6, w105_7, w105_10, w105_11, w105_12, w105_14, w105_17, w105_18, w105_19, w105_20, w105_22, w105_23, w105_26, w105_27, w105_28, w105_29, w105_30, w105_34, w105_35, w105_38, w105_40, w105_42, w105_45, w105_46, w105_47, w105_49, w105_52, w105_54, w105_56, w105_57, w105_60, w105_61, w105_62, w105_65, w105_66, w105_69, w105_71, w105_73, w105_74, w105_77, w105_79, Ko_n, Ko_v, vX_i, vX_r, vX_l, vX_j, reduceIte, show x.1 z < 1000000000 by omega, e3]
  exact loop m 0 (by omega)
def rb (r : Int → Int) : Nat → Int → Bool
  | 0 => fun _ => false
  | n + 1 => fun k => rb r n k || decide (k = r n)
theorem c107 {d : Nat} {k : Int} {a m : Nat} {T : Tt} {σ : St} {Q : vmO → vmH → Prop} (ha : ob 10 a) (hm : m ≤ 36) (hr : ∀ i : Nat, i ≤ m → 0 ≤ σ 1003 a i ∧ σ 1003 a i < 36) : Ca d k 107 [.ref a, .int (i32 m)] (E T σ) Q = Q (.inl (some (.long (bs (rb (σ 1003 a) (m + 1)))))) (E T σ) := by
  have ha3 := ob_lt ha
  have loop : ∀ (m' n : Nat), n + m' = m + 1 → Wp d M_X10_rowBits 5 [.ref a, .int (i32 m), .long (bs (rb (σ 1003 a) n)), vmJ, .int (i32 n)] [] (E T σ) Q = Q (.inl (some (.long (bs (rb (σ 1003 a) (m + 1)))))) (E T σ) := by
    intro m'
    induction m' with
    | zero =>
      intro n hn
      have hn : n = m + 1 := by omega
      subst hn
      rw [w107_5]
      simp (disch := (first | assumption | omega | exact Nat.le_of_ble_eq_true rfl | rfl)) only [w107_0, w107_1, w107_2, w107_3, w107_7, w107_8, w107_11, w107_13, w107_14, w107_17, w107_18, w107_21, w107_22, w107_23, w107_24, w107_27, w107_29, w107_30, w107_31, w107_32, w107_33, w107_36, w107_39, w107_40, Ko_n, Ko_v, vX_i, vX_r, vX_l, vX_j, reduceIte, show (m : Int) < ((m + 1 : Nat) : Int) by omega]
    | succ m' ih =>
      intro n hn
      have ih' := ih (n + 1) (by omega)
      have hrn := hr n (by omega)
      rw [w107_5]
      simp (disch := (first | assumption | omega | exact Nat.le_of_ble_eq_true rfl | rfl)) only [w107_0, w107_1, w107_2, w107_3, w107_7, w107_8, w107_11, w107_13, w107_14, w107_17, w107_18, w107_21, w107_22, w107_23, w107_24, w107_27, w107_29, w107_30, w107_31, w107_32, w107_33, w107_36, w107_39, w107_40, Ko_n, Ko_v, vX_i, vX_r, vX_l, vX_j, reduceIte, show ¬ (m : Int) < (n : Int) by omega, show ¬ ((37 : Nat) : Int) ≤ (n : Int) by omega, bs_add]
      exact ih'
  rw [n107 _ _ _ _ _ _ _ ha]
  simp (disch := (first | assumption | omega | exact Nat.le_of_ble_eq_true rfl | rfl)) only [w107_0, w107_1, w107_2, w107_3, w107_7, w107_8, w107_11, w107_13, w107_14, w107_17, w107_18, w107_21, w107_22, w107_23, w107_24, w107_27, w107_29, w107_30, w107_31, w107_32, w107_33, w107_36, w107_39, w107_40, Ko_n, Ko_v, vX_i, vX_r, vX_l, vX_j, reduceIte, bs_none]
  exact loop (m + 1) 0 (by omega)
/-! how many walks -/
def mn1 (W H : Int) (c f : Int → Int) (z d : Int) (g : Int → Int) : Int → Int := if nbC W H z d = -1 ∨ ¬ f (nbC W H z d) + c z = f z then g else fu g z (i64 (g z) + i64 (g (nbC W H z d))).toInt
def mnx (W H : Int) (c f : Int → Int) (z : Int) (g : Int → Int) : Nat → Int → Int
  | 0 => g
  | n + 1 => mn1 W H c f z n (mnx W H c f z g n)
def mny (W H : Int) (c f o : Int → Int) (g : Int → Int) : Nat → Int → Int
  | 0 => g
  | n + 1 => mnx W H c f (o n) (fu (mny W H c f o g n) (o n) (i64 (if n = 0 then 1 else 0)).toInt) 4
theorem c108 {d : Nat} {k W H t : Int} {a p r : Nat} {T : Tt} {σ : St} {Q : vmO → vmH → Prop} (ha : ob 10 a) (hp : ob 4 p) (hg : geo σ p W H) (h : wh2 W H) (hc : csIn (σ 1000 a) (W * H)) (hf : frIn (σ 1001 a)) (t0 : 0 ≤ t) (t1 : t < W * H) (hr : σ 1006 a 0 = r) (hr1 : r ≤ 36) (ho : ∀ i : Nat, i < r → 0 ≤ σ 1005 a i ∧ σ 1005 a i < W * H) :
    Ca (d + 1) k 108 [.ref a, .ref p, .int (i32 t)] (E T σ) Q = Q (.inl (some (.long (i64 (mny W H (σ 1000 a) (σ 1001 a) (σ 1005 a) (fil (σ 1007 a) 36 (i64 0).toInt) r t))))) (E T (upA σ 1007 a (mny W H (σ 1000 a) (σ 1001 a) (σ 1005 a) (fil (σ 1007 a) 36 (i64 0).toInt) r))) := by
  have ha3 := ob_lt ha
  have hp3 := ob_lt hp
  have hm := wh_mul h
  have hfar : far = 1000000000 := rfl
  obtain ⟨g1, g2, g3, g4, g5, g6⟩ := id hg
  have inner : ∀ (R : Prop) (i z : Int) (g : Int → Int), 0 ≤ z → z < W * H → (∀ l6, Wp (d + 1) M_X10_manyTo 10 [.ref a, .ref p, .int (i32 t), .int (i32 (i + 1)), .int (i32 z), .int (i32 (4 * z + 4)), l6] [] (E T (upA σ 1007 a (mnx W H (σ 1000 a) (σ 1001 a) z g 4))) Q = R) → ∀ (m j : Nat) (l6 : Value), j + m = 4 → Wp (d + 1) M_X10_manyTo 48 [.ref a, .ref p, .int (i32 t), .int (i32 i), .int (i32 z), .int (i32 (4 * z + j)), l6] [] (E T (upA σ 1007 a (mnx W H (σ 1000 a) (σ 1001 a) z g j))) Q = R := by
    intro R i z g z0 z1 hR m
    induction m with
    | zero =>
      intro j l6 hj
      have hj : j = 4 := by omega
      subst hj
      rw [w108_48]
      simp (disch := (first | assumption | omega | exact Nat.le_of_ble_eq_true rfl | rfl)) only [w108_0, w108_1, w108_4, w108_5, w108_8, w108_9, w108_11, w108_12, w108_15, w108_18, w108_19, w108_22, w108_23, w108_24, w108_26, w108_27, w108_30, w108_32, w108_33, w108_36, w108_37, w108_40, w108_41, w108_42, w108_43, w108_45, w108_46, w108_50, w108_51, w108_53, w108_54, w108_55, w108_56, w108_59, w108_60, w108_63, w108_65, w108_66, w108_68, w108_70, w108_71, w108_74, w108_75, w108_78, w108_80, w108_81, w108_82, w108_85, w108_87, w108_88, w108_89, w108_90, w108_93, w108_95, w108_96, w108_99, w108_100, w108_103, w108_105, w108_106, w108_107, w108_108, w108_111, w108_113, w108_114, w108_115, w108_116, w108_119, w108_122, w108_125, w108_128, w108_129, w108_132, w108_133, w108_134, Ko_n, Ko_v, vX_i, vX_r, vX_l, vX_j, reduceIte, show (4 * z + ((4 : Nat) : Int)) = 4 * z + 4 by omega, Int.le_refl]
      exact hR l6
    | succ m ih =>
      intro j l6 hj
      have hb := g6 z j z0 z1 (by omega) (by omega)
      have hfz := hf z z0 (by omega)
      have hcz := hc z z0 z1
      have e1 : (4 * z + (j : Int) + 1) = 4 * z + ((j + 1 : Nat) : Int) := by omega
      have ih' := fun l => ih (j + 1) l (by omega)
      rw [show mnx W H (σ 1000 a) (σ 1001 a) z g (j + 1) = mn1 W H (σ 1000 a) (σ 1001 a) z j (mnx W H (σ 1000 a) (σ 1001 a) z g j) from rfl] at ih'
      unfold mn1 at ih'
      rw [w108_48]
      by_cases hn : nbC W H z j = -1
      · rw [if_pos (Or.inl hn)] at ih'
        simp (disch := (first | assumption | omega | exact Nat.le_of_ble_eq_true rfl | rfl)) only [w108_0, w108_1, w108_4, w108_5, w108_8, w108_9, w108_11, w108_12, w108_15, w108_18, w108_19, w108_22, w108_23, w108_24, w108_26, w108_27, w108_30, w108_32, w108_33, w108_36, w108_37, w108_40, w108_41, w108_42, w108_43, w108_45, w108_46, w108_50, w108_51, w108_53, w108_54, w108_55, w108_56, w108_59, w108_60, w108_63, w108_65, w108_66, w108_68, w108_70, w108_71, w108_74, w108_75, w108_78, w108_80, w108_81, w108_82, w108_85, w108_87, w108_88, w108_89, w108_90, w108_93, w108_95, w108_96, w108_99, w108_100, w108_103, w108_105, w108_106, w108_107, w108_108, w108_111, w108_113, w108_114, w108_115, w108_116, w108_119, w108_122, w108_125, w108_128, w108_129, w108_132, w108_133, w108_134, Ko_n, Ko_v, vX_i, vX_r, vX_l, vX_j, reduceIte, show ¬ (4 * z + 4 ≤ 4 * z + (j : Int)) by omega, upA_t, hb, hn, e1]
        exact ih' _
      · have hi := nb_in h z0 z1 hn
        have hfn := hf _ hi.1 (by omega)
        by_cases hx : σ 1001 a (nbC W H z j) + σ 1000 a z = σ 1001 a z
        · rw [if_neg (fun w => w.elim hn (fun v => v hx))] at ih'
          simp (disch := (first | assumption | omega | exact Nat.le_of_ble_eq_true rfl | rfl)) only [w108_0, w108_1, w108_4, w108_5, w108_8, w108_9, w108_11, w108_12, w108_15, w108_18, w108_19, w108_22, w108_23, w108_24, w108_26, w108_27, w108_30, w108_32, w108_33, w108_36, w108_37, w108_40, w108_41, w108_42, w108_43, w108_45, w108_46, w108_50, w108_51, w108_53, w108_54, w108_55, w108_56, w108_59, w108_60, w108_63, w108_65, w108_66, w108_68, w108_70, w108_71, w108_74, w108_75, w108_78, w108_80, w108_81, w108_82, w108_85, w108_87, w108_88, w108_89, w108_90, w108_93, w108_95, w108_96, w108_99, w108_100, w108_103, w108_105, w108_106, w108_107, w108_108, w108_111, w108_113, w108_114, w108_115, w108_116, w108_119, w108_122, w108_125, w108_128, w108_129, w108_132, w108_133, w108_134, Ko_n, Ko_v, vX_i, vX_r, vX_l, vX_j, reduceIte, show ¬ (4 * z + 4 ≤ 4 * z + (j : Int)) by omega, upA_t, upA_s, hb, hn, hx, e1, not_true, upA_upA]
          exact ih' _
        · rw [if_pos (Or.inr hx)] at ih'
          simp (disch := (first | assumption | omega | exact Nat.le_of_ble_eq_true rfl | rfl)) only [w108_0, w108_1, w108_4, w108_5, w108_8, w108_9, w108_11, w108_12, w108_15, w108_18, w108_19, w108_22, w108_23, w108_24, w108_26, w108_27, w108_30, w108_32, w108_33, w108_36, w108_37, w108_40, w108_41, w108_42, w108_43, w108_45, w108_46, w108_50, w108_51, w108_53, w108_54, w108_55, w108_56, w108_59, w108_60, w108_63, w108_65, w108_66, w108_68, w108_70, w108_71, w108_74, w108_75, w108_78, w108_80, w108_81, w108_82, w108_85, w108_87, w108_88, w108_89, w108_90, w108_93, w108_95, w108_96, w108_99, w108_100, w108_103, w108_105, w108_106, w108_107, w108_108, w108_111, w108_113, w108_114, w108_115, w108_116, w108_119, w108_122, w108_125, w108_128, w108_129, w108_132, w108_133, w108_134, Ko_n, Ko_v, vX_i, vX_r, vX_l, vX_j, reduceIte, show ¬ (4 * z + 4 ≤ 4 * z + (j : Int)) by omega, upA_t, hb, hn, hx, e1, not_false_eq_true]
          exact ih' _
  have outer : ∀ (m n : Nat) (l4 l5 l6 : Value), n + m = r → Wp (d + 1) M_X10_manyTo 10 [.ref a, .ref p, .int (i32 t), .int (i32 n), l4, l5, l6] [] (E T (upA σ 1007 a (mny W H (σ 1000 a) (σ 1001 a) (σ 1005 a) (fil (σ 1007 a) 36 (i64 0).toInt) n))) Q = Q (.inl (some (.long (i64 (mny W H (σ 1000 a) (σ 1001 a) (σ 1005 a) (fil (σ 1007 a) 36 (i64 0).toInt) r t))))) (E T (upA σ 1007 a (mny W H (σ 1000 a) (σ 1001 a) (σ 1005 a) (fil (σ 1007 a) 36 (i64 0).toInt) r))) := by
    intro m
    induction m with
    | zero =>
      intro n l4 l5 l6 hn
      have hn : n = r := by omega
      subst hn
      rw [w108_10]
      simp (disch := (first | assumption | omega | exact Nat.le_of_ble_eq_true rfl | rfl)) only [w108_0, w108_1, w108_4, w108_5, w108_8, w108_9, w108_11, w108_12, w108_15, w108_18, w108_19, w108_22, w108_23, w108_24, w108_26, w108_27, w108_30, w108_32, w108_33, w108_36, w108_37, w108_40, w108_41, w108_42, w108_43, w108_45, w108_46, w108_50, w108_51, w108_53, w108_54, w108_55, w108_56, w108_59, w108_60, w108_63, w108_65, w108_66, w108_68, w108_70, w108_71, w108_74, w108_75, w108_78, w108_80, w108_81, w108_82, w108_85, w108_87, w108_88, w108_89, w108_90, w108_93, w108_95, w108_96, w108_99, w108_100, w108_103, w108_105, w108_106, w108_107, w108_108, w108_111, w108_113, w108_114, w108_115, w108_116, w108_119, w108_122, w108_125, w108_128, w108_129, w108_132, w108_133, w108_134, Ko_n, Ko_v, vX_i, vX_r, vX_l, vX_j, reduceIte, upA_t, upA_s, hr, Int.le_refl]
    | succ m ih =>
      intro n l4 l5 l6 hn
      have hon := ho n (by omega)
      have ih' := fun l4 l5 l6 => ih (n + 1) l4 l5 l6 (by omega)
      have key := inner _ n (σ 1005 a n) (fu (mny W H (σ 1000 a) (σ 1001 a) (σ 1005 a) (fil (σ 1007 a) 36 (i64 0).toInt) n) (σ 1005 a n) (i64 (if n = 0 then 1 else 0)).toInt) hon.1 hon.2 (fun l6 => ih' _ _ l6) 4 0 l6 rfl
      rw [show (4 * σ 1005 a n + ((0 : Nat) : Int)) = 4 * σ 1005 a n by omega] at key
      rw [w108_10]
      by_cases hn0 : n = 0
      · rw [if_pos hn0] at key
        simp (disch := (first | assumption | omega | exact Nat.le_of_ble_eq_true rfl | rfl)) only [w108_0, w108_1, w108_4, w108_5, w108_8, w108_9, w108_11, w108_12, w108_15, w108_18, w108_19, w108_22, w108_23, w108_24, w108_26, w108_27, w108_30, w108_32, w108_33, w108_36, w108_37, w108_40, w108_41, w108_42, w108_43, w108_45, w108_46, w108_50, w108_51, w108_53, w108_54, w108_55, w108_56, w108_59, w108_60, w108_63, w108_65, w108_66, w108_68, w108_70, w108_71, w108_74, w108_75, w108_78, w108_80, w108_81, w108_82, w108_85, w108_87, w108_88, w108_89, w108_90, w108_93, w108_95, w108_96, w108_99, w108_100, w108_103, w108_105, w108_106, w108_107, w108_108, w108_111, w108_113, w108_114, w108_115, w108_116, w108_119, w108_122, w108_125, w108_128, w108_129, w108_132, w108_133, w108_134, Ko_n, Ko_v, vX_i, vX_r, vX_l, vX_j, reduceIte, upA_t, upA_s, hr, show ¬ (r : Int) ≤ (n : Int) by omega, show ((n : Int) = 0) = True from eq_true (by omega), not_true, upA_upA]
        exact key
      · rw [if_neg hn0] at key
        simp (disch := (first | assumption | omega | exact Nat.le_of_ble_eq_true rfl | rfl)) only [w108_0, w108_1, w108_4, w108_5, w108_8, w108_9, w108_11, w108_12, w108_15, w108_18, w108_19, w108_22, w108_23, w108_24, w108_26, w108_27, w108_30, w108_32, w108_33, w108_36, w108_37, w108_40, w108_41, w108_42, w108_43, w108_45, w108_46, w108_50, w108_51, w108_53, w108_54, w108_55, w108_56, w108_59, w108_60, w108_63, w108_65, w108_66, w108_68, w108_70, w108_71, w108_74, w108_75, w108_78, w108_80, w108_81, w108_82, w108_85, w108_87, w108_88, w108_89, w108_90, w108_93, w108_95, w108_96, w108_99, w108_100, w108_103, w108_105, w108_106, w108_107, w108_108, w108_111, w108_113, w108_114, w108_115, w108_116, w108_119, w108_122, w108_125, w108_128, w108_129, w108_132, w108_133, w108_134, Ko_n, Ko_v, vX_i, vX_r, vX_l, vX_j, reduceIte, upA_t, upA_s, hr, show ¬ (r : Int) ≤ (n : Int) by omega, show ¬ (n : Int) = 0 by omega, not_false_eq_true, upA_upA]
        exact key
  rw [n108 _ _ _ _ _ _ _ _ ha]
  simp (disch := (first | assumption | omega | exact Nat.le_of_ble_eq_true rfl | rfl)) only [w108_0, w108_1, w108_4, w108_5, w108_8, w108_9, w108_11, w108_12, w108_15, w108_18, w108_19, w108_22, w108_23, w108_24, w108_26, w108_27, w108_30, w108_32, w108_33, w108_36, w108_37, w108_40, w108_41, w108_42, w108_43, w108_45, w108_46, w108_50, w108_51, w108_53, w108_54, w108_55, w108_56, w108_59, w108_60, w108_63, w108_65, w108_66, w108_68, w108_70, w108_71, w108_74, w108_75, w108_78, w108_80, w108_81, w108_82, w108_85, w108_87, w108_88, w108_89, w108_90, w108_93, w108_95, w108_96, w108_99, w108_100, w108_103, w108_105, w108_106, w108_107, w108_108, w108_111, w108_113, w108_114, w108_115, w108_116, w108_119, w108_122, w108_125, w108_128, w108_129, w108_132, w108_133, w108_134, Ko_n, Ko_v, vX_i, vX_r, vX_l, vX_j, reduceIte]
  rw [c319 (by omega) (ok_1007 a ha)]
  simp (disch := (first | assumption | omega | exact Nat.le_of_ble_eq_true rfl | rfl)) only [w108_0, w108_1, w108_4, w108_5, w108_8, w108_9, w108_11, w108_12, w108_15, w108_18, w108_19, w108_22, w108_23, w108_24, w108_26, w108_27, w108_30, w108_32, w108_33, w108_36, w108_37, w108_40, w108_41, w108_42, w108_43, w108_45, w108_46, w108_50, w108_51, w108_53, w108_54, w108_55, w108_56, w108_59, w108_60, w108_63, w108_65, w108_66, w108_68, w108_70, w108_71, w108_74, w108_75, w108_78, w108_80, w108_81, w108_82, w108_85, w108_87, w108_88, w108_89, w108_90, w108_93, w108_95, w108_96, w108_99, w108_100, w108_103, w108_105, w108_106, w108_107, w108_108, w108_111, w108_113, w108_114, w108_115, w108_116, w108_119, w108_122, w108_125, w108_128, w108_129, w108_132, w108_133, w108_134, Ko_n, Ko_v, vX_i, vX_r, vX_l, vX_j, reduceIte]
  exact outer r 0 _ _ _ (by omega)
