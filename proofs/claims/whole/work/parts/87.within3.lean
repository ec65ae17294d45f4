/-! ===== HedgePark: within, its loop ===== -/
theorem L133 {d N : Nat} {w c s W H : Int} {T : Tt} {σ : St} {Q : vmO → vmH → Prop} {C f : Int → Int} (hW : hpW σ W H N) (h : wh2 W H) (hc : csIn C (W * H)) (hf : frIn f) (k0 : 0 ≤ c) (k1 : c < N) (s0 : 0 ≤ s) (s1 : s ≤ 99)
    (hQ : ∀ K, Q (.inl (some (.int (i32 (if stN W H N C f s.toNat c < far then stN W H N C f s.toNat c else -1))))) (E T (wsT σ C K (stN W H N C f s.toNat)))) :
    ∀ (m n : Nat) (K : Int → Int) (b : Bool), n + m = s.toNat → (b = false → stN W H N C f s.toNat = stN W H N C f n) → Wp (d + 10) M_X11_within 81 [.ref 0, .int (i32 w), .int (i32 c), .int (i32 s), .int (i32 (if b then 1 else 0)), .int (i32 n)] [] (E T (wsT σ C K (stN W H N C f n))) Q := by
  have h0 := ob_hp; have h2 := ob_st; have h3 := ob_p3; have hn := ob_n10; have hwy := ob_wy
  have hm := wh_mul h
  have hNw := hW.2.2.1
  have hfar : far = 1000000000 := rfl
  have hr := stN_in h hNw hc hf
  have fin : ∀ (n : Nat) (K : Int → Int), stN W H N C f s.toNat = stN W H N C f n → Q (.inl (some (.int (i32 (if stN W H N C f n c < far then stN W H N C f n c else -1))))) (E T (wsT σ C K (stN W H N C f n))) := by
    intro n K e
    have := hQ K
    rw [e] at this
    exact this
  intro m
  induction m with
  | zero =>
    intro n K b hn2 hb
    have hn2 : n = s.toNat := by omega
    have hi := hr n c k0 (by omega)
    rw [w133_81]
    simp (disch := (first | assumption | omega | exact Nat.le_of_ble_eq_true rfl | rfl)) only [w133_0, w133_1, w133_2, w133_3, w133_6, w133_7, w133_10, w133_11, w133_13, w133_16, w133_17, w133_20, w133_21, w133_24, w133_25, w133_28, w133_29, w133_32, w133_35, w133_36, w133_39, w133_42, w133_43, w133_46, w133_49, w133_50, w133_53, w133_56, w133_57, w133_60, w133_61, w133_64, w133_67, w133_70, w133_71, w133_72, w133_75, w133_76, w133_78, w133_79, w133_83, w133_84, w133_87, w133_89, w133_92, w133_93, w133_96, w133_97, w133_100, w133_103, w133_106, w133_108, w133_111, w133_114, w133_115, w133_118, w133_121, w133_122, w133_123, w133_126, Ko_n, Ko_v, vX_i, vX_r, vX_l, vX_j, reduceIte, Nat.reduceAdd, show s ≤ (n : Int) by omega, wsT_1]
    rw [c171 (by omega) hi.1 hi.2]
    simp (disch := (first | assumption | omega | exact Nat.le_of_ble_eq_true rfl | rfl)) only [w133_0, w133_1, w133_2, w133_3, w133_6, w133_7, w133_10, w133_11, w133_13, w133_16, w133_17, w133_20, w133_21, w133_24, w133_25, w133_28, w133_29, w133_32, w133_35, w133_36, w133_39, w133_42, w133_43, w133_46, w133_49, w133_50, w133_53, w133_56, w133_57, w133_60, w133_61, w133_64, w133_67, w133_70, w133_71, w133_72, w133_75, w133_76, w133_78, w133_79, w133_83, w133_84, w133_87, w133_89, w133_92, w133_93, w133_96, w133_97, w133_100, w133_103, w133_106, w133_108, w133_111, w133_114, w133_115, w133_118, w133_121, w133_122, w133_123, w133_126, Ko_n, Ko_v, vX_i, vX_r, vX_l, vX_j, reduceIte, Nat.reduceAdd]
    exact fin n K (by rw [hn2])
  | succ m ih =>
    intro n K b hn2 hb
    have hi := hr n c k0 (by omega)
    rw [w133_81]
    cases b with
    | false =>
      simp (disch := (first | assumption | omega | exact Nat.le_of_ble_eq_true rfl | rfl)) only [w133_0, w133_1, w133_2, w133_3, w133_6, w133_7, w133_10, w133_11, w133_13, w133_16, w133_17, w133_20, w133_21, w133_24, w133_25, w133_28, w133_29, w133_32, w133_35, w133_36, w133_39, w133_42, w133_43, w133_46, w133_49, w133_50, w133_53, w133_56, w133_57, w133_60, w133_61, w133_64, w133_67, w133_70, w133_71, w133_72, w133_75, w133_76, w133_78, w133_79, w133_83, w133_84, w133_87, w133_89, w133_92, w133_93, w133_96, w133_97, w133_100, w133_103, w133_106, w133_108, w133_111, w133_114, w133_115, w133_118, w133_121, w133_122, w133_123, w133_126, Ko_n, Ko_v, vX_i, vX_r, vX_l, vX_j, reduceIte, Nat.reduceAdd, show ¬ s ≤ (n : Int) by omega, wsT_1, Bool.false_eq_true]
      rw [c171 (by omega) hi.1 hi.2]
      simp (disch := (first | assumption | omega | exact Nat.le_of_ble_eq_true rfl | rfl)) only [w133_0, w133_1, w133_2, w133_3, w133_6, w133_7, w133_10, w133_11, w133_13, w133_16, w133_17, w133_20, w133_21, w133_24, w133_25, w133_28, w133_29, w133_32, w133_35, w133_36, w133_39, w133_42, w133_43, w133_46, w133_49, w133_50, w133_53, w133_56, w133_57, w133_60, w133_61, w133_64, w133_67, w133_70, w133_71, w133_72, w133_75, w133_76, w133_78, w133_79, w133_83, w133_84, w133_87, w133_89, w133_92, w133_93, w133_96, w133_97, w133_100, w133_103, w133_106, w133_108, w133_111, w133_114, w133_115, w133_118, w133_121, w133_122, w133_123, w133_126, Ko_n, Ko_v, vX_i, vX_r, vX_l, vX_j, reduceIte, Nat.reduceAdd]
      exact fin n K (hb rfl)
    | true =>
      simp (disch := (first | assumption | omega | exact Nat.le_of_ble_eq_true rfl | rfl)) only [w133_0, w133_1, w133_2, w133_3, w133_6, w133_7, w133_10, w133_11, w133_13, w133_16, w133_17, w133_20, w133_21, w133_24, w133_25, w133_28, w133_29, w133_32, w133_35, w133_36, w133_39, w133_42, w133_43, w133_46, w133_49, w133_50, w133_53, w133_56, w133_57, w133_60, w133_61, w133_64, w133_67, w133_70, w133_71, w133_72, w133_75, w133_76, w133_78, w133_79, w133_83, w133_84, w133_87, w133_89, w133_92, w133_93, w133_96, w133_97, w133_100, w133_103, w133_106, w133_108, w133_111, w133_114, w133_115, w133_118, w133_121, w133_122, w133_123, w133_126, Ko_n, Ko_v, vX_i, vX_r, vX_l, vX_j, reduceIte, Nat.reduceAdd, show ¬ s ≤ (n : Int) by omega, Int.reduceEq]
      rw [c109 (N := N) hwy h3 (geo_ws hW.1) h hNw (by rw [wsT_0]; exact hc) (by rw [wsT_1]; exact hr n), wsT_0, wsT_1, wsT_u]
      simp (disch := (first | assumption | omega | exact Nat.le_of_ble_eq_true rfl | rfl)) only [w133_0, w133_1, w133_2, w133_3, w133_6, w133_7, w133_10, w133_11, w133_13, w133_16, w133_17, w133_20, w133_21, w133_24, w133_25, w133_28, w133_29, w133_32, w133_35, w133_36, w133_39, w133_42, w133_43, w133_46, w133_49, w133_50, w133_53, w133_56, w133_57, w133_60, w133_61, w133_64, w133_67, w133_70, w133_71, w133_72, w133_75, w133_76, w133_78, w133_79, w133_83, w133_84, w133_87, w133_89, w133_92, w133_93, w133_96, w133_97, w133_100, w133_103, w133_106, w133_108, w133_111, w133_114, w133_115, w133_118, w133_121, w133_122, w133_123, w133_126, Ko_n, Ko_v, vX_i, vX_r, vX_l, vX_j, reduceIte, Nat.reduceAdd]
      refine ih (n + 1) _ (ls (stp W H C (stN W H N C f n)) (stN W H N C f n) N) (by omega) ?_
      intro e
      have a1 := stN_no h hNw hc hf n e
      rw [show s.toNat = n + (s.toNat - n) by omega, a1, a1 1]
