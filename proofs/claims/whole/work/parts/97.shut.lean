/-! ===== HedgePark: shutOff, needed ===== -/
/-- what hangs together with a walker's cell -/
def flW (σ : St) (W H : Int) (N : Nat) (a : Int) : Int → Bool := flI W H (opB (σ 700 10) N) a 36
theorem op_in {f : Int → Int} {W H : Int} {N : Nat} (hN : (N : Int) = W * H) : ∀ k, 0 ≤ k → k < 64 → opB f N k = true → k < W * H := fun k _ _ hk => by
  have := of_decide_eq_true hk
  omega
def shA (σ : St) (W H : Int) (N : Nat) (a z : Int) : Int := if flW σ W H N a z then (if z = a ∨ nbB W H (fun i => decide (i = a)) z = true then -1 else lsR W H (opB (σ 700 10) N) a z 4 (fun _ => false) (fil (σ 1 151) 144 0) (σ 3 151) (σ 2 151)) else 0
theorem c144 {d N : Nat} {k w z W H : Int} {T : Tt} {σ : St} {Q : vmO → vmH → Prop} (hW : hpW σ W H N) (x0 : -2147483648 ≤ w) (x1 : w < 2147483648) (z0 : -2147483648 ≤ z) (z1 : z < 2147483648)
    (hQ1 : ¬ ((0 ≤ w ∧ w < σ 404 3 0) ∧ (0 ≤ z ∧ z < N)) → Q (.inr 0) (E (thr T) σ))
    (hQ2 : 0 ≤ w → w < σ 404 3 0 → 0 ≤ z → z < N → ∀ τ, sg σ τ → Q (.inl (some (.int (i32 (shA σ W H N (σ 702 10 w) z))))) (E T τ)) : Ca (d + 10) k 144 [.ref 0, .int (i32 w), .int (i32 z)] (E T σ) Q := by
  have h0 := ob_hp; have h2 := ob_st; have h3 := ob_p3; have hn := ob_n10
  have hm := wh_mul0 hW.2.1
  have hNw := hW.2.2.1
  have hN : σ 401 3 0 * σ 402 3 0 = (N : Int) := by rw [hW.1.1, hW.1.2.1, hW.2.2.1]
  have v0 := hW.2.2.2.2.2.1
  have v1 := hW.2.2.2.2.2.2.1
  have hS := hW.2.2.2.2.2.2.2.2.2.1
  rw [n144 _ _ _ _ _ _ _ _ h0]
  simp (disch := (first | assumption | omega | exact Nat.le_of_ble_eq_true rfl | rfl)) only [w144_0, w144_1, w144_2, w144_3, w144_6, w144_7, w144_10, w144_13, w144_14, w144_15, w144_18, w144_21, w144_24, w144_25, w144_26, w144_28, w144_29, w144_32, w144_35, w144_36, w144_39, w144_42, w144_44, w144_45, w144_47, w144_49, w144_52, w144_53, w144_56, w144_59, w144_60, w144_61, w144_62, w144_64, w144_67, w144_68, w144_69, w144_71, w144_72, w144_75, w144_76, w144_79, w144_82, w144_83, w144_84, w144_85, w144_88, w144_89, w144_91, w144_93, w144_94, w144_97, Ko_n, Ko_v, vX_i, vX_r, vX_l, vX_j, reduceIte]
  rw [c165 hN (by omega) (by omega) v0 v1 x0 x1 z0 z1]
  by_cases hv : (0 ≤ w ∧ w < σ 404 3 0) ∧ (0 ≤ z ∧ z < (N : Int))
  · rw [if_pos hv]
    obtain ⟨⟨w0, w1⟩, k0, k1⟩ := hv
    obtain ⟨h, w5, a0, a1⟩ := hpW_w hW w0 w1
    have hq := hQ2 w0 w1 k0 k1
    unfold shA flW at hq
    simp (disch := (first | assumption | omega | exact Nat.le_of_ble_eq_true rfl | rfl)) only [w144_0, w144_1, w144_2, w144_3, w144_6, w144_7, w144_10, w144_13, w144_14, w144_15, w144_18, w144_21, w144_24, w144_25, w144_26, w144_28, w144_29, w144_32, w144_35, w144_36, w144_39, w144_42, w144_44, w144_45, w144_47, w144_49, w144_52, w144_53, w144_56, w144_59, w144_60, w144_61, w144_62, w144_64, w144_67, w144_68, w144_69, w144_71, w144_72, w144_75, w144_76, w144_79, w144_82, w144_83, w144_84, w144_85, w144_88, w144_89, w144_91, w144_93, w144_94, w144_97, Ko_n, Ko_v, vX_i, vX_r, vX_l, vX_j, reduceIte, Nat.reduceAdd, c26, hN]
    rw [c76 hn hS.1 (by omega) (by omega)]
    simp (disch := (first | assumption | omega | exact Nat.le_of_ble_eq_true rfl | rfl)) only [w144_0, w144_1, w144_2, w144_3, w144_6, w144_7, w144_10, w144_13, w144_14, w144_15, w144_18, w144_21, w144_24, w144_25, w144_26, w144_28, w144_29, w144_32, w144_35, w144_36, w144_39, w144_42, w144_44, w144_45, w144_47, w144_49, w144_52, w144_53, w144_56, w144_59, w144_60, w144_61, w144_62, w144_64, w144_67, w144_68, w144_69, w144_71, w144_72, w144_75, w144_76, w144_79, w144_82, w144_83, w144_84, w144_85, w144_88, w144_89, w144_91, w144_93, w144_94, w144_97, Ko_n, Ko_v, vX_i, vX_r, vX_l, vX_j, reduceIte, Nat.reduceAdd]
    rw [c33 h3 hW.1 h a0 (by omega) (op_in hNw)]
    simp (disch := (first | assumption | omega | exact Nat.le_of_ble_eq_true rfl | rfl)) only [w144_0, w144_1, w144_2, w144_3, w144_6, w144_7, w144_10, w144_13, w144_14, w144_15, w144_18, w144_21, w144_24, w144_25, w144_26, w144_28, w144_29, w144_32, w144_35, w144_36, w144_39, w144_42, w144_44, w144_45, w144_47, w144_49, w144_52, w144_53, w144_56, w144_59, w144_60, w144_61, w144_62, w144_64, w144_67, w144_68, w144_69, w144_71, w144_72, w144_75, w144_76, w144_79, w144_82, w144_83, w144_84, w144_85, w144_88, w144_89, w144_91, w144_93, w144_94, w144_97, Ko_n, Ko_v, vX_i, vX_r, vX_l, vX_j, reduceIte, Nat.reduceAdd]
    rw [c172 (by omega) k0 (by omega)]
    cases hf : flI W H (opB (σ 700 10) N) (σ 702 10 w) 36 z with
    | false =>
      rw [hf] at hq
      simp (disch := (first | assumption | omega | exact Nat.le_of_ble_eq_true rfl | rfl)) only [w144_0, w144_1, w144_2, w144_3, w144_6, w144_7, w144_10, w144_13, w144_14, w144_15, w144_18, w144_21, w144_24, w144_25, w144_26, w144_28, w144_29, w144_32, w144_35, w144_36, w144_39, w144_42, w144_44, w144_45, w144_47, w144_49, w144_52, w144_53, w144_56, w144_59, w144_60, w144_61, w144_62, w144_64, w144_67, w144_68, w144_69, w144_71, w144_72, w144_75, w144_76, w144_79, w144_82, w144_83, w144_84, w144_85, w144_88, w144_89, w144_91, w144_93, w144_94, w144_97, Ko_n, Ko_v, vX_i, vX_r, vX_l, vX_j, reduceIte, Nat.reduceAdd, Int.reduceEq, Bool.false_eq_true, not_true_eq_false]
      exact hq σ sg_r
    | true =>
      rw [hf] at hq
      simp only [if_true] at hq
      by_cases e : z = σ 702 10 w
      · rw [if_pos (Or.inl e)] at hq
        simp (disch := (first | assumption | omega | exact Nat.le_of_ble_eq_true rfl | rfl)) only [w144_0, w144_1, w144_2, w144_3, w144_6, w144_7, w144_10, w144_13, w144_14, w144_15, w144_18, w144_21, w144_24, w144_25, w144_26, w144_28, w144_29, w144_32, w144_35, w144_36, w144_39, w144_42, w144_44, w144_45, w144_47, w144_49, w144_52, w144_53, w144_56, w144_59, w144_60, w144_61, w144_62, w144_64, w144_67, w144_68, w144_69, w144_71, w144_72, w144_75, w144_76, w144_79, w144_82, w144_83, w144_84, w144_85, w144_88, w144_89, w144_91, w144_93, w144_94, w144_97, Ko_n, Ko_v, vX_i, vX_r, vX_l, vX_j, reduceIte, Nat.reduceAdd, Int.reduceEq, not_false_eq_true, e]
        exact hq σ sg_r
      · simp (disch := (first | assumption | omega | exact Nat.le_of_ble_eq_true rfl | rfl)) only [w144_0, w144_1, w144_2, w144_3, w144_6, w144_7, w144_10, w144_13, w144_14, w144_15, w144_18, w144_21, w144_24, w144_25, w144_26, w144_28, w144_29, w144_32, w144_35, w144_36, w144_39, w144_42, w144_44, w144_45, w144_47, w144_49, w144_52, w144_53, w144_56, w144_59, w144_60, w144_61, w144_62, w144_64, w144_67, w144_68, w144_69, w144_71, w144_72, w144_75, w144_76, w144_79, w144_82, w144_83, w144_84, w144_85, w144_88, w144_89, w144_91, w144_93, w144_94, w144_97, Ko_n, Ko_v, vX_i, vX_r, vX_l, vX_j, reduceIte, Nat.reduceAdd, Int.reduceEq, not_false_eq_true, e, bs_one]
        rw [c32 (q := fun k => decide (k = σ 702 10 w)) h3 hW.1 h (fun k k0 k1 hk => by have := of_decide_eq_true hk; omega)]
        simp (disch := (first | assumption | omega | exact Nat.le_of_ble_eq_true rfl | rfl)) only [w144_0, w144_1, w144_2, w144_3, w144_6, w144_7, w144_10, w144_13, w144_14, w144_15, w144_18, w144_21, w144_24, w144_25, w144_26, w144_28, w144_29, w144_32, w144_35, w144_36, w144_39, w144_42, w144_44, w144_45, w144_47, w144_49, w144_52, w144_53, w144_56, w144_59, w144_60, w144_61, w144_62, w144_64, w144_67, w144_68, w144_69, w144_71, w144_72, w144_75, w144_76, w144_79, w144_82, w144_83, w144_84, w144_85, w144_88, w144_89, w144_91, w144_93, w144_94, w144_97, Ko_n, Ko_v, vX_i, vX_r, vX_l, vX_j, reduceIte, Nat.reduceAdd]
        rw [c172 (by omega) k0 (by omega)]
        cases hb : nbB W H (fun i => decide (i = σ 702 10 w)) z with
        | true =>
          rw [if_pos (Or.inr hb)] at hq
          simp (disch := (first | assumption | omega | exact Nat.le_of_ble_eq_true rfl | rfl)) only [w144_0, w144_1, w144_2, w144_3, w144_6, w144_7, w144_10, w144_13, w144_14, w144_15, w144_18, w144_21, w144_24, w144_25, w144_26, w144_28, w144_29, w144_32, w144_35, w144_36, w144_39, w144_42, w144_44, w144_45, w144_47, w144_49, w144_52, w144_53, w144_56, w144_59, w144_60, w144_61, w144_62, w144_64, w144_67, w144_68, w144_69, w144_71, w144_72, w144_75, w144_76, w144_79, w144_82, w144_83, w144_84, w144_85, w144_88, w144_89, w144_91, w144_93, w144_94, w144_97, Ko_n, Ko_v, vX_i, vX_r, vX_l, vX_j, reduceIte, Nat.reduceAdd, Int.reduceEq]
          exact hq σ sg_r
        | false =>
          rw [if_neg (fun t => t.elim e (fun t => by rw [hb] at t; cases t))] at hq
          simp (disch := (first | assumption | omega | exact Nat.le_of_ble_eq_true rfl | rfl)) only [w144_0, w144_1, w144_2, w144_3, w144_6, w144_7, w144_10, w144_13, w144_14, w144_15, w144_18, w144_21, w144_24, w144_25, w144_26, w144_28, w144_29, w144_32, w144_35, w144_36, w144_39, w144_42, w144_44, w144_45, w144_47, w144_49, w144_52, w144_53, w144_56, w144_59, w144_60, w144_61, w144_62, w144_64, w144_67, w144_68, w144_69, w144_71, w144_72, w144_75, w144_76, w144_79, w144_82, w144_83, w144_84, w144_85, w144_88, w144_89, w144_91, w144_93, w144_94, w144_97, Ko_n, Ko_v, vX_i, vX_r, vX_l, vX_j, reduceIte, Nat.reduceAdd, Int.reduceEq, Bool.false_eq_true]
          refine c1 h3 hW.1 h a0 a1 k0 (by omega) ?_
          intro x q al
          simp (disch := (first | assumption | omega | exact Nat.le_of_ble_eq_true rfl | rfl)) only [w144_0, w144_1, w144_2, w144_3, w144_6, w144_7, w144_10, w144_13, w144_14, w144_15, w144_18, w144_21, w144_24, w144_25, w144_26, w144_28, w144_29, w144_32, w144_35, w144_36, w144_39, w144_42, w144_44, w144_45, w144_47, w144_49, w144_52, w144_53, w144_56, w144_59, w144_60, w144_61, w144_62, w144_64, w144_67, w144_68, w144_69, w144_71, w144_72, w144_75, w144_76, w144_79, w144_82, w144_83, w144_84, w144_85, w144_88, w144_89, w144_91, w144_93, w144_94, w144_97, Ko_n, Ko_v, vX_i, vX_r, vX_l, vX_j, reduceIte, Nat.reduceAdd]
          refine hq _ ?_
          unfold toS ctS
          exact sg_u (sg_u (sg_u (sg_u (sg_u sg_r (by omega)) (by omega)) (by omega)) (by omega)) (by omega)
  · rw [if_neg hv, Ko_x rfl]
    exact hQ1 hv
/-- a cell that all need -/
def ndP (op : Int → Bool) (W H a z : Int) (c : Int) : Bool := (flI W H op a 36 c && !decide (c = a) && !decide (c = z)) && !flI W H (fun k => op k && !decide (k = c)) a 36 z
def ndB (op : Int → Bool) (W H a z : Int) (n : Int) : Int → Bool := fun c => decide (0 ≤ c ∧ c < n) && ndP op W H a z c
theorem ndB_s {op : Int → Bool} {W H a z : Int} {n : Nat} (j : Int) : ndB op W H a z ((n + 1 : Nat) : Int) j = (ndB op W H a z n j || (decide (j = n) && ndP op W H a z n)) := by
  unfold ndB
  by_cases e : j = n
  · rw [e, decide_eq_true (by omega : 0 ≤ (n : Int) ∧ (n : Int) < ((n + 1 : Nat) : Int)), decide_eq_false (by omega : ¬ (0 ≤ (n : Int) ∧ (n : Int) < (n : Int))), decide_eq_true (rfl : (n : Int) = n), Bool.true_and, Bool.false_and, Bool.false_or]
  · rw [decide_eq_false e, Bool.false_and, Bool.or_false]
    simp only [show (0 ≤ j ∧ j < ((n + 1 : Nat) : Int)) ↔ (0 ≤ j ∧ j < (n : Int)) by omega]
theorem c145 {d N : Nat} {k w z W H : Int} {T : Tt} {σ : St} {Q : vmO → vmH → Prop} (hW : hpW σ W H N) (x0 : -2147483648 ≤ w) (x1 : w < 2147483648) (z0 : -2147483648 ≤ z) (z1 : z < 2147483648)
    (hQ1 : ¬ ((0 ≤ w ∧ w < σ 404 3 0) ∧ (0 ≤ z ∧ z < N)) → Q (.inr 0) (E (thr T) σ))
    (hQ2 : 0 ≤ w → w < σ 404 3 0 → 0 ≤ z → z < N → Q (.inl (some (.long (if flW σ W H N (σ 702 10 w) z then bs (ndB (opB (σ 700 10) N) W H (σ 702 10 w) z N) else i64 0)))) (E T σ)) : Ca (d + 10) k 145 [.ref 0, .int (i32 w), .int (i32 z)] (E T σ) Q := by
  have h0 := ob_hp; have h2 := ob_st; have h3 := ob_p3; have hn := ob_n10
  have hm := wh_mul0 hW.2.1
  have hNw := hW.2.2.1
  have hN : σ 401 3 0 * σ 402 3 0 = (N : Int) := by rw [hW.1.1, hW.1.2.1, hW.2.2.1]
  have v0 := hW.2.2.2.2.2.1
  have v1 := hW.2.2.2.2.2.2.1
  have hS := hW.2.2.2.2.2.2.2.2.2.1
  rw [n145 _ _ _ _ _ _ _ _ h0]
  simp (disch := (first | assumption | omega | exact Nat.le_of_ble_eq_true rfl | rfl)) only [w145_0, w145_1, w145_2, w145_3, w145_6, w145_7, w145_10, w145_13, w145_14, w145_15, w145_18, w145_21, w145_24, w145_25, w145_26, w145_28, w145_29, w145_32, w145_35, w145_36, w145_39, w145_42, w145_44, w145_45, w145_47, w145_49, w145_52, w145_54, w145_56, w145_57, w145_60, w145_63, w145_64, w145_65, w145_66, w145_68, w145_69, w145_73, w145_74, w145_77, w145_80, w145_82, w145_84, w145_87, w145_90, w145_92, w145_94, w145_97, w145_99, w145_100, w145_103, w145_104, w145_107, w145_108, w145_110, w145_112, w145_115, w145_116, w145_118, w145_120, w145_121, w145_123, w145_124, w145_127, w145_128, w145_129, w145_132, w145_133, w145_136, w145_139, w145_141, w145_142, w145_144, w145_145, w145_146, w145_148, w145_151, w145_154, w145_156, Ko_n, Ko_v, vX_i, vX_r, vX_l, vX_j, reduceIte]
  rw [c165 hN (by omega) (by omega) v0 v1 x0 x1 z0 z1]
  by_cases hv : (0 ≤ w ∧ w < σ 404 3 0) ∧ (0 ≤ z ∧ z < (N : Int))
  · rw [if_pos hv]
    obtain ⟨⟨w0, w1⟩, k0, k1⟩ := hv
    obtain ⟨h, w5, a0, a1⟩ := hpW_w hW w0 w1
    have hq := hQ2 w0 w1 k0 k1
    unfold flW at hq
    simp (disch := (first | assumption | omega | exact Nat.le_of_ble_eq_true rfl | rfl)) only [w145_0, w145_1, w145_2, w145_3, w145_6, w145_7, w145_10, w145_13, w145_14, w145_15, w145_18, w145_21, w145_24, w145_25, w145_26, w145_28, w145_29, w145_32, w145_35, w145_36, w145_39, w145_42, w145_44, w145_45, w145_47, w145_49, w145_52, w145_54, w145_56, w145_57, w145_60, w145_63, w145_64, w145_65, w145_66, w145_68, w145_69, w145_73, w145_74, w145_77, w145_80, w145_82, w145_84, w145_87, w145_90, w145_92, w145_94, w145_97, w145_99, w145_100, w145_103, w145_104, w145_107, w145_108, w145_110, w145_112, w145_115, w145_116, w145_118, w145_120, w145_121, w145_123, w145_124, w145_127, w145_128, w145_129, w145_132, w145_133, w145_136, w145_139, w145_141, w145_142, w145_144, w145_145, w145_146, w145_148, w145_151, w145_154, w145_156, Ko_n, Ko_v, vX_i, vX_r, vX_l, vX_j, reduceIte, Nat.reduceAdd, c26, hN]
    rw [c76 hn hS.1 (by omega) (by omega)]
    simp (disch := (first | assumption | omega | exact Nat.le_of_ble_eq_true rfl | rfl)) only [w145_0, w145_1, w145_2, w145_3, w145_6, w145_7, w145_10, w145_13, w145_14, w145_15, w145_18, w145_21, w145_24, w145_25, w145_26, w145_28, w145_29, w145_32, w145_35, w145_36, w145_39, w145_42, w145_44, w145_45, w145_47, w145_49, w145_52, w145_54, w145_56, w145_57, w145_60, w145_63, w145_64, w145_65, w145_66, w145_68, w145_69, w145_73, w145_74, w145_77, w145_80, w145_82, w145_84, w145_87, w145_90, w145_92, w145_94, w145_97, w145_99, w145_100, w145_103, w145_104, w145_107, w145_108, w145_110, w145_112, w145_115, w145_116, w145_118, w145_120, w145_121, w145_123, w145_124, w145_127, w145_128, w145_129, w145_132, w145_133, w145_136, w145_139, w145_141, w145_142, w145_144, w145_145, w145_146, w145_148, w145_151, w145_154, w145_156, Ko_n, Ko_v, vX_i, vX_r, vX_l, vX_j, reduceIte, Nat.reduceAdd]
    have hop := op_in (f := σ 700 10) hNw
    generalize opB (σ 700 10) N = op at *
    generalize σ 702 10 w = a at *
    rw [c33 h3 hW.1 h a0 (by omega) hop]
    simp (disch := (first | assumption | omega | exact Nat.le_of_ble_eq_true rfl | rfl)) only [w145_0, w145_1, w145_2, w145_3, w145_6, w145_7, w145_10, w145_13, w145_14, w145_15, w145_18, w145_21, w145_24, w145_25, w145_26, w145_28, w145_29, w145_32, w145_35, w145_36, w145_39, w145_42, w145_44, w145_45, w145_47, w145_49, w145_52, w145_54, w145_56, w145_57, w145_60, w145_63, w145_64, w145_65, w145_66, w145_68, w145_69, w145_73, w145_74, w145_77, w145_80, w145_82, w145_84, w145_87, w145_90, w145_92, w145_94, w145_97, w145_99, w145_100, w145_103, w145_104, w145_107, w145_108, w145_110, w145_112, w145_115, w145_116, w145_118, w145_120, w145_121, w145_123, w145_124, w145_127, w145_128, w145_129, w145_132, w145_133, w145_136, w145_139, w145_141, w145_142, w145_144, w145_145, w145_146, w145_148, w145_151, w145_154, w145_156, Ko_n, Ko_v, vX_i, vX_r, vX_l, vX_j, reduceIte, Nat.reduceAdd]
    rw [c172 (by omega) k0 (by omega)]
    cases hf : flI W H op a 36 z with
    | false =>
      rw [hf] at hq
      simp (disch := (first | assumption | omega | exact Nat.le_of_ble_eq_true rfl | rfl)) only [w145_0, w145_1, w145_2, w145_3, w145_6, w145_7, w145_10, w145_13, w145_14, w145_15, w145_18, w145_21, w145_24, w145_25, w145_26, w145_28, w145_29, w145_32, w145_35, w145_36, w145_39, w145_42, w145_44, w145_45, w145_47, w145_49, w145_52, w145_54, w145_56, w145_57, w145_60, w145_63, w145_64, w145_65, w145_66, w145_68, w145_69, w145_73, w145_74, w145_77, w145_80, w145_82, w145_84, w145_87, w145_90, w145_92, w145_94, w145_97, w145_99, w145_100, w145_103, w145_104, w145_107, w145_108, w145_110, w145_112, w145_115, w145_116, w145_118, w145_120, w145_121, w145_123, w145_124, w145_127, w145_128, w145_129, w145_132, w145_133, w145_136, w145_139, w145_141, w145_142, w145_144, w145_145, w145_146, w145_148, w145_151, w145_154, w145_156, Ko_n, Ko_v, vX_i, vX_r, vX_l, vX_j, reduceIte, Nat.reduceAdd, Int.reduceEq, Bool.false_eq_true, not_true_eq_false]
      exact hq
    | true =>
      rw [hf] at hq
      simp only [if_true] at hq
      have loop : ∀ (m n : Nat) (l12 : Value), n + m = N → Wp (d + 10) M_X11_needed 71 [.ref 0, .int (i32 w), .int (i32 z), .ref 3, .int (i32 a), .long (bs op), vmJ, .long (bs (flI W H op a 36)), vmJ, .long (bs (ndB op W H a z n)), vmJ, .int (i32 n), l12] [] (E T σ) Q := by
        intro m
        induction m with
        | zero =>
          intro n l12 hn2
          have hn2 : n = N := by omega
          subst hn2
          rw [w145_71]
          simp (disch := (first | assumption | omega | exact Nat.le_of_ble_eq_true rfl | rfl)) only [w145_0, w145_1, w145_2, w145_3, w145_6, w145_7, w145_10, w145_13, w145_14, w145_15, w145_18, w145_21, w145_24, w145_25, w145_26, w145_28, w145_29, w145_32, w145_35, w145_36, w145_39, w145_42, w145_44, w145_45, w145_47, w145_49, w145_52, w145_54, w145_56, w145_57, w145_60, w145_63, w145_64, w145_65, w145_66, w145_68, w145_69, w145_73, w145_74, w145_77, w145_80, w145_82, w145_84, w145_87, w145_90, w145_92, w145_94, w145_97, w145_99, w145_100, w145_103, w145_104, w145_107, w145_108, w145_110, w145_112, w145_115, w145_116, w145_118, w145_120, w145_121, w145_123, w145_124, w145_127, w145_128, w145_129, w145_132, w145_133, w145_136, w145_139, w145_141, w145_142, w145_144, w145_145, w145_146, w145_148, w145_151, w145_154, w145_156, Ko_n, Ko_v, vX_i, vX_r, vX_l, vX_j, reduceIte, Nat.reduceAdd, c26, hN, Int.le_refl]
          exact hq
        | succ m ih =>
          intro n l12 hn2
          have ih' := fun l12 => ih (n + 1) l12 (by omega)
          have skip : ndP op W H a z n = false → bs (ndB op W H a z ((n + 1 : Nat) : Int)) = bs (ndB op W H a z n) := fun e => bs_congr fun j j0 j1 => by
            rw [ndB_s, e, Bool.and_false, Bool.or_false]
          have take : ndP op W H a z n = true → bs (ndB op W H a z ((n + 1 : Nat) : Int)) = bs (fun j => ndB op W H a z n j || decide (j = (n : Int))) := fun e => bs_congr fun j j0 j1 => by
            rw [ndB_s, e, Bool.and_true]
          rw [w145_71]
          simp (disch := (first | assumption | omega | exact Nat.le_of_ble_eq_true rfl | rfl)) only [w145_0, w145_1, w145_2, w145_3, w145_6, w145_7, w145_10, w145_13, w145_14, w145_15, w145_18, w145_21, w145_24, w145_25, w145_26, w145_28, w145_29, w145_32, w145_35, w145_36, w145_39, w145_42, w145_44, w145_45, w145_47, w145_49, w145_52, w145_54, w145_56, w145_57, w145_60, w145_63, w145_64, w145_65, w145_66, w145_68, w145_69, w145_73, w145_74, w145_77, w145_80, w145_82, w145_84, w145_87, w145_90, w145_92, w145_94, w145_97, w145_99, w145_100, w145_103, w145_104, w145_107, w145_108, w145_110, w145_112, w145_115, w145_116, w145_118, w145_120, w145_121, w145_123, w145_124, w145_127, w145_128, w145_129, w145_132, w145_133, w145_136, w145_139, w145_141, w145_142, w145_144, w145_145, w145_146, w145_148, w145_151, w145_154, w145_156, Ko_n, Ko_v, vX_i, vX_r, vX_l, vX_j, reduceIte, Nat.reduceAdd, c26, hN, show ¬ (N : Int) ≤ (n : Int) by omega]
          rw [c172 (by omega) (by omega) (by omega)]
          cases e1 : flI W H op a 36 n with
          | false =>
            rw [skip (by unfold ndP; rw [e1]; rfl)] at ih'
            simp (disch := (first | assumption | omega | exact Nat.le_of_ble_eq_true rfl | rfl)) only [w145_0, w145_1, w145_2, w145_3, w145_6, w145_7, w145_10, w145_13, w145_14, w145_15, w145_18, w145_21, w145_24, w145_25, w145_26, w145_28, w145_29, w145_32, w145_35, w145_36, w145_39, w145_42, w145_44, w145_45, w145_47, w145_49, w145_52, w145_54, w145_56, w145_57, w145_60, w145_63, w145_64, w145_65, w145_66, w145_68, w145_69, w145_73, w145_74, w145_77, w145_80, w145_82, w145_84, w145_87, w145_90, w145_92, w145_94, w145_97, w145_99, w145_100, w145_103, w145_104, w145_107, w145_108, w145_110, w145_112, w145_115, w145_116, w145_118, w145_120, w145_121, w145_123, w145_124, w145_127, w145_128, w145_129, w145_132, w145_133, w145_136, w145_139, w145_141, w145_142, w145_144, w145_145, w145_146, w145_148, w145_151, w145_154, w145_156, Ko_n, Ko_v, vX_i, vX_r, vX_l, vX_j, reduceIte, Nat.reduceAdd, Int.reduceEq, Bool.false_eq_true]
            exact ih' _
          | true =>
            by_cases e2 : (n : Int) = a
            · rw [skip (by unfold ndP; rw [decide_eq_true e2]; simp)] at ih'
              simp (disch := (first | assumption | omega | exact Nat.le_of_ble_eq_true rfl | rfl)) only [w145_0, w145_1, w145_2, w145_3, w145_6, w145_7, w145_10, w145_13, w145_14, w145_15, w145_18, w145_21, w145_24, w145_25, w145_26, w145_28, w145_29, w145_32, w145_35, w145_36, w145_39, w145_42, w145_44, w145_45, w145_47, w145_49, w145_52, w145_54, w145_56, w145_57, w145_60, w145_63, w145_64, w145_65, w145_66, w145_68, w145_69, w145_73, w145_74, w145_77, w145_80, w145_82, w145_84, w145_87, w145_90, w145_92, w145_94, w145_97, w145_99, w145_100, w145_103, w145_104, w145_107, w145_108, w145_110, w145_112, w145_115, w145_116, w145_118, w145_120, w145_121, w145_123, w145_124, w145_127, w145_128, w145_129, w145_132, w145_133, w145_136, w145_139, w145_141, w145_142, w145_144, w145_145, w145_146, w145_148, w145_151, w145_154, w145_156, Ko_n, Ko_v, vX_i, vX_r, vX_l, vX_j, reduceIte, Nat.reduceAdd, Int.reduceEq, eq_true e2]
              exact ih' _
            · by_cases e3 : (n : Int) = z
              · rw [skip (by unfold ndP; rw [decide_eq_true e3]; simp)] at ih'
                simp (disch := (first | assumption | omega | exact Nat.le_of_ble_eq_true rfl | rfl)) only [w145_0, w145_1, w145_2, w145_3, w145_6, w145_7, w145_10, w145_13, w145_14, w145_15, w145_18, w145_21, w145_24, w145_25, w145_26, w145_28, w145_29, w145_32, w145_35, w145_36, w145_39, w145_42, w145_44, w145_45, w145_47, w145_49, w145_52, w145_54, w145_56, w145_57, w145_60, w145_63, w145_64, w145_65, w145_66, w145_68, w145_69, w145_73, w145_74, w145_77, w145_80, w145_82, w145_84, w145_87, w145_90, w145_92, w145_94, w145_97, w145_99, w145_100, w145_103, w145_104, w145_107, w145_108, w145_110, w145_112, w145_115, w145_116, w145_118, w145_120, w145_121, w145_123, w145_124, w145_127, w145_128, w145_129, w145_132, w145_133, w145_136, w145_139, w145_141, w145_142, w145_144, w145_145, w145_146, w145_148, w145_151, w145_154, w145_156, Ko_n, Ko_v, vX_i, vX_r, vX_l, vX_j, reduceIte, Nat.reduceAdd, Int.reduceEq, e2, eq_true e3]
                exact ih' _
              · simp (disch := (first | assumption | omega | exact Nat.le_of_ble_eq_true rfl | rfl)) only [w145_0, w145_1, w145_2, w145_3, w145_6, w145_7, w145_10, w145_13, w145_14, w145_15, w145_18, w145_21, w145_24, w145_25, w145_26, w145_28, w145_29, w145_32, w145_35, w145_36, w145_39, w145_42, w145_44, w145_45, w145_47, w145_49, w145_52, w145_54, w145_56, w145_57, w145_60, w145_63, w145_64, w145_65, w145_66, w145_68, w145_69, w145_73, w145_74, w145_77, w145_80, w145_82, w145_84, w145_87, w145_90, w145_92, w145_94, w145_97, w145_99, w145_100, w145_103, w145_104, w145_107, w145_108, w145_110, w145_112, w145_115, w145_116, w145_118, w145_120, w145_121, w145_123, w145_124, w145_127, w145_128, w145_129, w145_132, w145_133, w145_136, w145_139, w145_141, w145_142, w145_144, w145_145, w145_146, w145_148, w145_151, w145_154, w145_156, Ko_n, Ko_v, vX_i, vX_r, vX_l, vX_j, reduceIte, Nat.reduceAdd, Int.reduceEq, e2, e3, bs_one, bs_not, bs_and]
                rw [c33 (o := fun k => op k && !decide (k = (n : Int))) h3 hW.1 h a0 (by omega) (fun k k0 k1 hk => hop k k0 k1 (by rw [Bool.and_eq_true] at hk; exact hk.1))]
                simp (disch := (first | assumption | omega | exact Nat.le_of_ble_eq_true rfl | rfl)) only [w145_0, w145_1, w145_2, w145_3, w145_6, w145_7, w145_10, w145_13, w145_14, w145_15, w145_18, w145_21, w145_24, w145_25, w145_26, w145_28, w145_29, w145_32, w145_35, w145_36, w145_39, w145_42, w145_44, w145_45, w145_47, w145_49, w145_52, w145_54, w145_56, w145_57, w145_60, w145_63, w145_64, w145_65, w145_66, w145_68, w145_69, w145_73, w145_74, w145_77, w145_80, w145_82, w145_84, w145_87, w145_90, w145_92, w145_94, w145_97, w145_99, w145_100, w145_103, w145_104, w145_107, w145_108, w145_110, w145_112, w145_115, w145_116, w145_118, w145_120, w145_121, w145_123, w145_124, w145_127, w145_128, w145_129, w145_132, w145_133, w145_136, w145_139, w145_141, w145_142, w145_144, w145_145, w145_146, w145_148, w145_151, w145_154, w145_156, Ko_n, Ko_v, vX_i, vX_r, vX_l, vX_j, reduceIte, Nat.reduceAdd]
                rw [c172 (by omega) k0 (by omega)]
                cases e4 : flI W H (fun k => op k && !decide (k = (n : Int))) a 36 z with
                | true =>
                  rw [skip (by unfold ndP; rw [e4]; simp)] at ih'
                  simp (disch := (first | assumption | omega | exact Nat.le_of_ble_eq_true rfl | rfl)) only [w145_0, w145_1, w145_2, w145_3, w145_6, w145_7, w145_10, w145_13, w145_14, w145_15, w145_18, w145_21, w145_24, w145_25, w145_26, w145_28, w145_29, w145_32, w145_35, w145_36, w145_39, w145_42, w145_44, w145_45, w145_47, w145_49, w145_52, w145_54, w145_56, w145_57, w145_60, w145_63, w145_64, w145_65, w145_66, w145_68, w145_69, w145_73, w145_74, w145_77, w145_80, w145_82, w145_84, w145_87, w145_90, w145_92, w145_94, w145_97, w145_99, w145_100, w145_103, w145_104, w145_107, w145_108, w145_110, w145_112, w145_115, w145_116, w145_118, w145_120, w145_121, w145_123, w145_124, w145_127, w145_128, w145_129, w145_132, w145_133, w145_136, w145_139, w145_141, w145_142, w145_144, w145_145, w145_146, w145_148, w145_151, w145_154, w145_156, Ko_n, Ko_v, vX_i, vX_r, vX_l, vX_j, reduceIte, Nat.reduceAdd, Int.reduceEq, not_false_eq_true]
                  exact ih' _
                | false =>
                  rw [take (by unfold ndP; rw [e1, e4, decide_eq_false e2, decide_eq_false e3]; rfl)] at ih'
                  simp (disch := (first | assumption | omega | exact Nat.le_of_ble_eq_true rfl | rfl)) only [w145_0, w145_1, w145_2, w145_3, w145_6, w145_7, w145_10, w145_13, w145_14, w145_15, w145_18, w145_21, w145_24, w145_25, w145_26, w145_28, w145_29, w145_32, w145_35, w145_36, w145_39, w145_42, w145_44, w145_45, w145_47, w145_49, w145_52, w145_54, w145_56, w145_57, w145_60, w145_63, w145_64, w145_65, w145_66, w145_68, w145_69, w145_73, w145_74, w145_77, w145_80, w145_82, w145_84, w145_87, w145_90, w145_92, w145_94, w145_97, w145_99, w145_100, w145_103, w145_104, w145_107, w145_108, w145_110, w145_112, w145_115, w145_116, w145_118, w145_120, w145_121, w145_123, w145_124, w145_127, w145_128, w145_129, w145_132, w145_133, w145_136, w145_139, w145_141, w145_142, w145_144, w145_145, w145_146, w145_148, w145_151, w145_154, w145_156, Ko_n, Ko_v, vX_i, vX_r, vX_l, vX_j, reduceIte, Nat.reduceAdd, Int.reduceEq, not_true_eq_false, Bool.false_eq_true, bs_add]
                  exact ih' _
      simp (disch := (first | assumption | omega | exact Nat.le_of_ble_eq_true rfl | rfl)) only [w145_0, w145_1, w145_2, w145_3, w145_6, w145_7, w145_10, w145_13, w145_14, w145_15, w145_18, w145_21, w145_24, w145_25, w145_26, w145_28, w145_29, w145_32, w145_35, w145_36, w145_39, w145_42, w145_44, w145_45, w145_47, w145_49, w145_52, w145_54, w145_56, w145_57, w145_60, w145_63, w145_64, w145_65, w145_66, w145_68, w145_69, w145_73, w145_74, w145_77, w145_80, w145_82, w145_84, w145_87, w145_90, w145_92, w145_94, w145_97, w145_99, w145_100, w145_103, w145_104, w145_107, w145_108, w145_110, w145_112, w145_115, w145_116, w145_118, w145_120, w145_121, w145_123, w145_124, w145_127, w145_128, w145_129, w145_132, w145_133, w145_136, w145_139, w145_141, w145_142, w145_144, w145_145, w145_146, w145_148, w145_151, w145_154, w145_156, Ko_n, Ko_v, vX_i, vX_r, vX_l, vX_j, reduceIte, Nat.reduceAdd, Int.reduceEq, not_false_eq_true]
      have := loop N 0 vmJ (by omega)
      rw [bs_congr (p := ndB op W H a z ((0 : Nat) : Int)) (q := fun _ => false) (fun j j0 _ => by unfold ndB; rw [decide_eq_false (by omega), Bool.false_and]), ← bs_none] at this
      exact this
  · rw [if_neg hv, Ko_x rfl]
    exact hQ1 hv
