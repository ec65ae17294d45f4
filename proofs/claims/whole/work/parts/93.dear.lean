/-! ===== HedgePark: dearest ===== -/
theorem rb_congr {r r' : Int → Int} : ∀ n : Nat, (∀ i : Nat, i < n → r i = r' i) → rb r n = rb r' n
  | 0, _ => rfl
  | n + 1, h => by
    funext k
    simp only [rb]
    rw [rb_congr n (fun i hi => h i (by omega)), h n (by omega)]
/-- what it costs at most to shut one of the first n cells, and which -/
def dnI (wo : Int → Int) (tr : Int → Bool) (st : Int) : Nat → Int × Int
  | 0 => (st, -1)
  | n + 1 => if tr n = true ∧ (dnI wo tr st n).1 < wo n then (wo n, (n : Int)) else dnI wo tr st n
theorem dnI_in {wo : Int → Int} {tr : Int → Bool} {st : Int} {m : Nat} (s0 : 0 ≤ st) (s1 : st ≤ far) (hf : ∀ x : Nat, x < m → 0 ≤ wo x ∧ wo x ≤ far) (n : Nat) (hn : n ≤ m) : 0 ≤ (dnI wo tr st n).1 ∧ (dnI wo tr st n).1 ≤ far := by
  induction n with
  | zero => exact ⟨s0, s1⟩
  | succ n ih =>
    have := ih (by omega)
    have h2 := hf n (by omega)
    simp only [dnI]
    split
    · exact h2
    · exact this
/-- the cells of a way but its ends -/
def trB (p : Nat → Int) (m : Nat) (a z : Int) : Int → Bool := fun k => (rb (fun i => p i.toNat) (m + 1) k && !decide (k = a)) && !decide (k = z)
theorem c146 {d N : Nat} {k w z W H : Int} {T : Tt} {σ : St} {Q : vmO → vmH → Prop} (hW : hpW σ W H N) (x0 : -2147483648 ≤ w) (x1 : w < 2147483648) (z0 : -2147483648 ≤ z) (z1 : z < 2147483648)
    (hQ1 : ¬ ((0 ≤ w ∧ w < σ 404 3 0) ∧ (0 ≤ z ∧ z < N)) → Q (.inr 0) (E (thr T) σ))
    (hQ2 : 0 ≤ w → w < σ 404 3 0 → 0 ≤ z → z < N → ¬ dD W H (prc σ 3 10 (frB (σ 405 3 0) w)) z N (σ 702 10 w) < far → ∀ τ, sg σ τ → Q (.inl (some (.int (i32 (-1))))) (E T τ))
    (hQ3 : 0 ≤ w → w < σ 404 3 0 → 0 ≤ z → z < N → dD W H (prc σ 3 10 (frB (σ 405 3 0) w)) z N (σ 702 10 w) < far → ∀ m : Nat, m ≤ 35 → ptK W H (prc σ 3 10 (frB (σ 405 3 0) w)) (dD W H (prc σ 3 10 (frB (σ 405 3 0) w)) z N) (σ 702 10 w) z m → ∀ τ, sg σ τ → Q (.inl (some (.int (i32 (dnI (fun x => dD W H (fu (prc σ 3 10 (frB (σ 405 3 0) w)) x (-1)) (σ 702 10 w) N z) (trB (pt W H (prc σ 3 10 (frB (σ 405 3 0) w)) (dD W H (prc σ 3 10 (frB (σ 405 3 0) w)) z N) (σ 702 10 w)) m (σ 702 10 w) z) (dD W H (prc σ 3 10 (frB (σ 405 3 0) w)) (σ 702 10 w) N z) N).2)))) (E T τ)) : Ca (d + 10) k 146 [.ref 0, .int (i32 w), .int (i32 z)] (E T σ) Q := by
  have h0 := ob_hp; have h2 := ob_st; have h3 := ob_p3; have hn := ob_n10; have hwy := ob_wy
  have hm := wh_mul0 hW.2.1
  have hNw := hW.2.2.1
  have hfar : far = 1000000000 := rfl
  have hN : σ 401 3 0 * σ 402 3 0 = (N : Int) := by rw [hW.1.1, hW.1.2.1, hW.2.2.1]
  have v0 := hW.2.2.2.2.2.1
  have v1 := hW.2.2.2.2.2.2.1
  have u0 := hW.2.2.2.2.2.2.2.1
  have u1 := hW.2.2.2.2.2.2.2.2.1
  rw [n146 _ _ _ _ _ _ _ _ h0]
  simp (disch := (first | assumption | omega | exact Nat.le_of_ble_eq_true rfl | rfl)) only [w146_0, w146_1, w146_2, w146_3, w146_6, w146_7, w146_10, w146_13, w146_14, w146_15, w146_18, w146_21, w146_24, w146_25, w146_26, w146_28, w146_29, w146_32, w146_33, w146_34, w146_37, w146_40, w146_41, w146_42, w146_45, w146_48, w146_49, w146_52, w146_53, w146_55, w146_56, w146_59, w146_61, w146_63, w146_64, w146_67, w146_68, w146_69, w146_70, w146_73, w146_75, w146_78, w146_79, w146_81, w146_82, w146_85, w146_86, w146_87, w146_88, w146_89, w146_90, w146_93, w146_94, w146_95, w146_97, w146_98, w146_101, w146_102, w146_104, w146_107, w146_108, w146_111, w146_114, w146_115, w146_116, w146_118, w146_119, w146_121, w146_122, w146_126, w146_127, w146_130, w146_133, w146_135, w146_137, w146_140, w146_143, w146_144, w146_147, w146_148, w146_150, w146_151, w146_153, w146_156, w146_158, w146_160, w146_162, w146_165, w146_167, w146_169, w146_171, w146_173, w146_176, w146_179, w146_181, Ko_n, Ko_v, vX_i, vX_r, vX_l, vX_j, reduceIte]
  rw [c165 hN (by omega) (by omega) v0 v1 x0 x1 z0 z1]
  by_cases hv : (0 ≤ w ∧ w < σ 404 3 0) ∧ (0 ≤ z ∧ z < (N : Int))
  · rw [if_pos hv]
    obtain ⟨⟨w0, w1⟩, k0, k1⟩ := hv
    obtain ⟨h, w5, a0, a1⟩ := hpW_w hW w0 w1
    have hcs := prc_cs (b := frB (σ 405 3 0) w) hW
    simp (disch := (first | assumption | omega | exact Nat.le_of_ble_eq_true rfl | rfl)) only [w146_0, w146_1, w146_2, w146_3, w146_6, w146_7, w146_10, w146_13, w146_14, w146_15, w146_18, w146_21, w146_24, w146_25, w146_26, w146_28, w146_29, w146_32, w146_33, w146_34, w146_37, w146_40, w146_41, w146_42, w146_45, w146_48, w146_49, w146_52, w146_53, w146_55, w146_56, w146_59, w146_61, w146_63, w146_64, w146_67, w146_68, w146_69, w146_70, w146_73, w146_75, w146_78, w146_79, w146_81, w146_82, w146_85, w146_86, w146_87, w146_88, w146_89, w146_90, w146_93, w146_94, w146_95, w146_97, w146_98, w146_101, w146_102, w146_104, w146_107, w146_108, w146_111, w146_114, w146_115, w146_116, w146_118, w146_119, w146_121, w146_122, w146_126, w146_127, w146_130, w146_133, w146_135, w146_137, w146_140, w146_143, w146_144, w146_147, w146_148, w146_150, w146_151, w146_153, w146_156, w146_158, w146_160, w146_162, w146_165, w146_167, w146_169, w146_171, w146_173, w146_176, w146_179, w146_181, Ko_n, Ko_v, vX_i, vX_r, vX_l, vX_j, reduceIte, Nat.reduceAdd, c27]
    refine prcZ hW sg_r ?_
    intro τ hs hC
    simp (disch := (first | assumption | omega | exact Nat.le_of_ble_eq_true rfl | rfl)) only [w146_0, w146_1, w146_2, w146_3, w146_6, w146_7, w146_10, w146_13, w146_14, w146_15, w146_18, w146_21, w146_24, w146_25, w146_26, w146_28, w146_29, w146_32, w146_33, w146_34, w146_37, w146_40, w146_41, w146_42, w146_45, w146_48, w146_49, w146_52, w146_53, w146_55, w146_56, w146_59, w146_61, w146_63, w146_64, w146_67, w146_68, w146_69, w146_70, w146_73, w146_75, w146_78, w146_79, w146_81, w146_82, w146_85, w146_86, w146_87, w146_88, w146_89, w146_90, w146_93, w146_94, w146_95, w146_97, w146_98, w146_101, w146_102, w146_104, w146_107, w146_108, w146_111, w146_114, w146_115, w146_116, w146_118, w146_119, w146_121, w146_122, w146_126, w146_127, w146_130, w146_133, w146_135, w146_137, w146_140, w146_143, w146_144, w146_147, w146_148, w146_150, w146_151, w146_153, w146_156, w146_158, w146_160, w146_162, w146_165, w146_167, w146_169, w146_171, w146_173, w146_176, w146_179, w146_181, Ko_n, Ko_v, vX_i, vX_r, vX_l, vX_j, reduceIte, Nat.reduceAdd]
    generalize ha : σ 702 10 w = a at *
    generalize hc : prc σ 3 10 (frB (σ 405 3 0) w) = c at *
    refine trcZ hW h hcs hs hC a0 a1 k0 (by omega) ?_ ?_
    · intro hf τ' hs'
      simp (disch := (first | assumption | omega | exact Nat.le_of_ble_eq_true rfl | rfl)) only [w146_0, w146_1, w146_2, w146_3, w146_6, w146_7, w146_10, w146_13, w146_14, w146_15, w146_18, w146_21, w146_24, w146_25, w146_26, w146_28, w146_29, w146_32, w146_33, w146_34, w146_37, w146_40, w146_41, w146_42, w146_45, w146_48, w146_49, w146_52, w146_53, w146_55, w146_56, w146_59, w146_61, w146_63, w146_64, w146_67, w146_68, w146_69, w146_70, w146_73, w146_75, w146_78, w146_79, w146_81, w146_82, w146_85, w146_86, w146_87, w146_88, w146_89, w146_90, w146_93, w146_94, w146_95, w146_97, w146_98, w146_101, w146_102, w146_104, w146_107, w146_108, w146_111, w146_114, w146_115, w146_116, w146_118, w146_119, w146_121, w146_122, w146_126, w146_127, w146_130, w146_133, w146_135, w146_137, w146_140, w146_143, w146_144, w146_147, w146_148, w146_150, w146_151, w146_153, w146_156, w146_158, w146_160, w146_162, w146_165, w146_167, w146_169, w146_171, w146_173, w146_176, w146_179, w146_181, Ko_n, Ko_v, vX_i, vX_r, vX_l, vX_j, reduceIte, Nat.reduceAdd, not_true]
      exact hQ2 w0 w1 k0 k1 hf τ' hs'
    · intro hf m τ' m35 hK hs' hC' hrow
      have hq := hQ3 w0 w1 k0 k1 hf m m35 hK
      simp (disch := (first | assumption | omega | exact Nat.le_of_ble_eq_true rfl | rfl)) only [w146_0, w146_1, w146_2, w146_3, w146_6, w146_7, w146_10, w146_13, w146_14, w146_15, w146_18, w146_21, w146_24, w146_25, w146_26, w146_28, w146_29, w146_32, w146_33, w146_34, w146_37, w146_40, w146_41, w146_42, w146_45, w146_48, w146_49, w146_52, w146_53, w146_55, w146_56, w146_59, w146_61, w146_63, w146_64, w146_67, w146_68, w146_69, w146_70, w146_73, w146_75, w146_78, w146_79, w146_81, w146_82, w146_85, w146_86, w146_87, w146_88, w146_89, w146_90, w146_93, w146_94, w146_95, w146_97, w146_98, w146_101, w146_102, w146_104, w146_107, w146_108, w146_111, w146_114, w146_115, w146_116, w146_118, w146_119, w146_121, w146_122, w146_126, w146_127, w146_130, w146_133, w146_135, w146_137, w146_140, w146_143, w146_144, w146_147, w146_148, w146_150, w146_151, w146_153, w146_156, w146_158, w146_160, w146_162, w146_165, w146_167, w146_169, w146_171, w146_173, w146_176, w146_179, w146_181, Ko_n, Ko_v, vX_i, vX_r, vX_l, vX_j, reduceIte, Nat.reduceAdd, show ¬ (m : Int) = -1 by omega, not_false_eq_true]
      rw [c107 hwy (by omega) (fun i hi => by rw [hrow i hi]; have := hK.1 i hi; omega)]
      rw [rb_congr (r' := fun i => pt W H c (dD W H c z N) a i.toNat) (m + 1) (fun i hi => by rw [hrow i (by omega)]; show _ = pt W H c (dD W H c z N) a ((i : Int)).toNat; rw [show ((i : Int)).toNat = i by omega])]
      simp (disch := (first | assumption | omega | exact Nat.le_of_ble_eq_true rfl | rfl)) only [w146_0, w146_1, w146_2, w146_3, w146_6, w146_7, w146_10, w146_13, w146_14, w146_15, w146_18, w146_21, w146_24, w146_25, w146_26, w146_28, w146_29, w146_32, w146_33, w146_34, w146_37, w146_40, w146_41, w146_42, w146_45, w146_48, w146_49, w146_52, w146_53, w146_55, w146_56, w146_59, w146_61, w146_63, w146_64, w146_67, w146_68, w146_69, w146_70, w146_73, w146_75, w146_78, w146_79, w146_81, w146_82, w146_85, w146_86, w146_87, w146_88, w146_89, w146_90, w146_93, w146_94, w146_95, w146_97, w146_98, w146_101, w146_102, w146_104, w146_107, w146_108, w146_111, w146_114, w146_115, w146_116, w146_118, w146_119, w146_121, w146_122, w146_126, w146_127, w146_130, w146_133, w146_135, w146_137, w146_140, w146_143, w146_144, w146_147, w146_148, w146_150, w146_151, w146_153, w146_156, w146_158, w146_160, w146_162, w146_165, w146_167, w146_169, w146_171, w146_173, w146_176, w146_179, w146_181, Ko_n, Ko_v, vX_i, vX_r, vX_l, vX_j, reduceIte, Nat.reduceAdd, bs_one, bs_not, bs_and]
      refine sprZ hW h hcs hs' hC' a0 a1 ?_
      intro τ2 hs2 hC2 hF2 hfr2
      have hfz := hfr2 z k0 (by omega)
      have hwo : ∀ x : Int, 0 ≤ dD W H (fu c x (-1)) a N z ∧ dD W H (fu c x (-1)) a N z ≤ far := fun x => dD_fr h (fu_cs hcs) hNw z k0 (by omega)
      have hdd : 0 ≤ dD W H c a N z ∧ dD W H c a N z ≤ far := dD_fr h hcs hNw z k0 (by omega)
      have loop : ∀ (m' n : Nat) (ρ : St) (l11 : Value), n + m' = N → sg σ ρ → agr (W * H) (ρ 1000 144) c → Wp (d + 10) M_X11_dearest 124 [.ref 0, .int (i32 w), .int (i32 z), .ref 3, .int (i32 a), .int (i32 m), .long (bs (trB (pt W H c (dD W H c z N) a) m a z)), vmJ, .int (i32 (dnI (fun x => dD W H (fu c x (-1)) a N z) (trB (pt W H c (dD W H c z N) a) m a z) (dD W H c a N z) n).1), .int (i32 (dnI (fun x => dD W H (fu c x (-1)) a N z) (trB (pt W H c (dD W H c z N) a) m a z) (dD W H c a N z) n).2), .int (i32 n), l11] [] (E T ρ) Q := by
        intro m'
        induction m' with
        | zero =>
          intro n ρ l11 hn2 hsρ hCρ
          have hn2 : n = N := by omega
          subst hn2
          rw [w146_124]
          simp (disch := (first | assumption | omega | exact Nat.le_of_ble_eq_true rfl | rfl)) only [w146_0, w146_1, w146_2, w146_3, w146_6, w146_7, w146_10, w146_13, w146_14, w146_15, w146_18, w146_21, w146_24, w146_25, w146_26, w146_28, w146_29, w146_32, w146_33, w146_34, w146_37, w146_40, w146_41, w146_42, w146_45, w146_48, w146_49, w146_52, w146_53, w146_55, w146_56, w146_59, w146_61, w146_63, w146_64, w146_67, w146_68, w146_69, w146_70, w146_73, w146_75, w146_78, w146_79, w146_81, w146_82, w146_85, w146_86, w146_87, w146_88, w146_89, w146_90, w146_93, w146_94, w146_95, w146_97, w146_98, w146_101, w146_102, w146_104, w146_107, w146_108, w146_111, w146_114, w146_115, w146_116, w146_118, w146_119, w146_121, w146_122, w146_126, w146_127, w146_130, w146_133, w146_135, w146_137, w146_140, w146_143, w146_144, w146_147, w146_148, w146_150, w146_151, w146_153, w146_156, w146_158, w146_160, w146_162, w146_165, w146_167, w146_169, w146_171, w146_173, w146_176, w146_179, w146_181, Ko_n, Ko_v, vX_i, vX_r, vX_l, vX_j, reduceIte, Nat.reduceAdd, c26, hsρ 401 3 (by omega), hsρ 402 3 (by omega), hN, Int.le_refl]
          exact hq ρ hsρ
        | succ m' ih =>
          intro n ρ l11 hn2 hsρ hCρ
          have ih' := fun ρ l11 => ih (n + 1) ρ l11 (by omega)
          have hi := dnI_in (wo := fun x => dD W H (fu c x (-1)) a N z) (tr := trB (pt W H c (dD W H c z N) a) m a z) (st := dD W H c a N z) (m := N) hdd.1 hdd.2 (fun x _ => hwo x) n (by omega)
          rw [w146_124]
          simp (disch := (first | assumption | omega | exact Nat.le_of_ble_eq_true rfl | rfl)) only [w146_0, w146_1, w146_2, w146_3, w146_6, w146_7, w146_10, w146_13, w146_14, w146_15, w146_18, w146_21, w146_24, w146_25, w146_26, w146_28, w146_29, w146_32, w146_33, w146_34, w146_37, w146_40, w146_41, w146_42, w146_45, w146_48, w146_49, w146_52, w146_53, w146_55, w146_56, w146_59, w146_61, w146_63, w146_64, w146_67, w146_68, w146_69, w146_70, w146_73, w146_75, w146_78, w146_79, w146_81, w146_82, w146_85, w146_86, w146_87, w146_88, w146_89, w146_90, w146_93, w146_94, w146_95, w146_97, w146_98, w146_101, w146_102, w146_104, w146_107, w146_108, w146_111, w146_114, w146_115, w146_116, w146_118, w146_119, w146_121, w146_122, w146_126, w146_127, w146_130, w146_133, w146_135, w146_137, w146_140, w146_143, w146_144, w146_147, w146_148, w146_150, w146_151, w146_153, w146_156, w146_158, w146_160, w146_162, w146_165, w146_167, w146_169, w146_171, w146_173, w146_176, w146_179, w146_181, Ko_n, Ko_v, vX_i, vX_r, vX_l, vX_j, reduceIte, Nat.reduceAdd, c26, hsρ 401 3 (by omega), hsρ 402 3 (by omega), hN, show ¬ (N : Int) ≤ (n : Int) by omega]
          rw [c172 (by omega) (by omega) (by omega)]
          simp only [dnI] at ih'
          cases ht : trB (pt W H c (dD W H c z N) a) m a z n with
          | false =>
            rw [if_neg (fun e => by rw [ht] at e; exact absurd e.1 (by decide))] at ih'
            simp (disch := (first | assumption | omega | exact Nat.le_of_ble_eq_true rfl | rfl)) only [w146_0, w146_1, w146_2, w146_3, w146_6, w146_7, w146_10, w146_13, w146_14, w146_15, w146_18, w146_21, w146_24, w146_25, w146_26, w146_28, w146_29, w146_32, w146_33, w146_34, w146_37, w146_40, w146_41, w146_42, w146_45, w146_48, w146_49, w146_52, w146_53, w146_55, w146_56, w146_59, w146_61, w146_63, w146_64, w146_67, w146_68, w146_69, w146_70, w146_73, w146_75, w146_78, w146_79, w146_81, w146_82, w146_85, w146_86, w146_87, w146_88, w146_89, w146_90, w146_93, w146_94, w146_95, w146_97, w146_98, w146_101, w146_102, w146_104, w146_107, w146_108, w146_111, w146_114, w146_115, w146_116, w146_118, w146_119, w146_121, w146_122, w146_126, w146_127, w146_130, w146_133, w146_135, w146_137, w146_140, w146_143, w146_144, w146_147, w146_148, w146_150, w146_151, w146_153, w146_156, w146_158, w146_160, w146_162, w146_165, w146_167, w146_169, w146_171, w146_173, w146_176, w146_179, w146_181, Ko_n, Ko_v, vX_i, vX_r, vX_l, vX_j, reduceIte, Nat.reduceAdd, Bool.false_eq_true]
            exact ih' ρ l11 hsρ hCρ
          | true =>
            simp (disch := (first | assumption | omega | exact Nat.le_of_ble_eq_true rfl | rfl)) only [w146_0, w146_1, w146_2, w146_3, w146_6, w146_7, w146_10, w146_13, w146_14, w146_15, w146_18, w146_21, w146_24, w146_25, w146_26, w146_28, w146_29, w146_32, w146_33, w146_34, w146_37, w146_40, w146_41, w146_42, w146_45, w146_48, w146_49, w146_52, w146_53, w146_55, w146_56, w146_59, w146_61, w146_63, w146_64, w146_67, w146_68, w146_69, w146_70, w146_73, w146_75, w146_78, w146_79, w146_81, w146_82, w146_85, w146_86, w146_87, w146_88, w146_89, w146_90, w146_93, w146_94, w146_95, w146_97, w146_98, w146_101, w146_102, w146_104, w146_107, w146_108, w146_111, w146_114, w146_115, w146_116, w146_118, w146_119, w146_121, w146_122, w146_126, w146_127, w146_130, w146_133, w146_135, w146_137, w146_140, w146_143, w146_144, w146_147, w146_148, w146_150, w146_151, w146_153, w146_156, w146_158, w146_160, w146_162, w146_165, w146_167, w146_169, w146_171, w146_173, w146_176, w146_179, w146_181, Ko_n, Ko_v, vX_i, vX_r, vX_l, vX_j, reduceIte, Nat.reduceAdd, Int.reduceEq]
            refine woZ hW h hcs hsρ hCρ a0 a1 k0 (by omega) (by omega) (by omega) ?_
            intro τ3 hs3 hC3
            have hw := hwo n
            by_cases hl : (dnI (fun x => dD W H (fu c x (-1)) a N z) (trB (pt W H c (dD W H c z N) a) m a z) (dD W H c a N z) n).1 < dD W H (fu c n (-1)) a N z
            · rw [if_pos ⟨ht, hl⟩] at ih'
              simp (disch := (first | assumption | omega | exact Nat.le_of_ble_eq_true rfl | rfl)) only [w146_0, w146_1, w146_2, w146_3, w146_6, w146_7, w146_10, w146_13, w146_14, w146_15, w146_18, w146_21, w146_24, w146_25, w146_26, w146_28, w146_29, w146_32, w146_33, w146_34, w146_37, w146_40, w146_41, w146_42, w146_45, w146_48, w146_49, w146_52, w146_53, w146_55, w146_56, w146_59, w146_61, w146_63, w146_64, w146_67, w146_68, w146_69, w146_70, w146_73, w146_75, w146_78, w146_79, w146_81, w146_82, w146_85, w146_86, w146_87, w146_88, w146_89, w146_90, w146_93, w146_94, w146_95, w146_97, w146_98, w146_101, w146_102, w146_104, w146_107, w146_108, w146_111, w146_114, w146_115, w146_116, w146_118, w146_119, w146_121, w146_122, w146_126, w146_127, w146_130, w146_133, w146_135, w146_137, w146_140, w146_143, w146_144, w146_147, w146_148, w146_150, w146_151, w146_153, w146_156, w146_158, w146_160, w146_162, w146_165, w146_167, w146_169, w146_171, w146_173, w146_176, w146_179, w146_181, Ko_n, Ko_v, vX_i, vX_r, vX_l, vX_j, reduceIte, Nat.reduceAdd, show ¬ dD W H (fu c n (-1)) a N z ≤ (dnI (fun x => dD W H (fu c x (-1)) a N z) (trB (pt W H c (dD W H c z N) a) m a z) (dD W H c a N z) n).1 by omega]
              exact ih' τ3 _ hs3 hC3
            · rw [if_neg (fun e => hl e.2)] at ih'
              simp (disch := (first | assumption | omega | exact Nat.le_of_ble_eq_true rfl | rfl)) only [w146_0, w146_1, w146_2, w146_3, w146_6, w146_7, w146_10, w146_13, w146_14, w146_15, w146_18, w146_21, w146_24, w146_25, w146_26, w146_28, w146_29, w146_32, w146_33, w146_34, w146_37, w146_40, w146_41, w146_42, w146_45, w146_48, w146_49, w146_52, w146_53, w146_55, w146_56, w146_59, w146_61, w146_63, w146_64, w146_67, w146_68, w146_69, w146_70, w146_73, w146_75, w146_78, w146_79, w146_81, w146_82, w146_85, w146_86, w146_87, w146_88, w146_89, w146_90, w146_93, w146_94, w146_95, w146_97, w146_98, w146_101, w146_102, w146_104, w146_107, w146_108, w146_111, w146_114, w146_115, w146_116, w146_118, w146_119, w146_121, w146_122, w146_126, w146_127, w146_130, w146_133, w146_135, w146_137, w146_140, w146_143, w146_144, w146_147, w146_148, w146_150, w146_151, w146_153, w146_156, w146_158, w146_160, w146_162, w146_165, w146_167, w146_169, w146_171, w146_173, w146_176, w146_179, w146_181, Ko_n, Ko_v, vX_i, vX_r, vX_l, vX_j, reduceIte, Nat.reduceAdd, show dD W H (fu c n (-1)) a N z ≤ (dnI (fun x => dD W H (fu c x (-1)) a N z) (trB (pt W H c (dD W H c z N) a) m a z) (dD W H c a N z) n).1 by omega]
              exact ih' τ3 _ hs3 hC3
      simp (disch := (first | assumption | omega | exact Nat.le_of_ble_eq_true rfl | rfl)) only [w146_0, w146_1, w146_2, w146_3, w146_6, w146_7, w146_10, w146_13, w146_14, w146_15, w146_18, w146_21, w146_24, w146_25, w146_26, w146_28, w146_29, w146_32, w146_33, w146_34, w146_37, w146_40, w146_41, w146_42, w146_45, w146_48, w146_49, w146_52, w146_53, w146_55, w146_56, w146_59, w146_61, w146_63, w146_64, w146_67, w146_68, w146_69, w146_70, w146_73, w146_75, w146_78, w146_79, w146_81, w146_82, w146_85, w146_86, w146_87, w146_88, w146_89, w146_90, w146_93, w146_94, w146_95, w146_97, w146_98, w146_101, w146_102, w146_104, w146_107, w146_108, w146_111, w146_114, w146_115, w146_116, w146_118, w146_119, w146_121, w146_122, w146_126, w146_127, w146_130, w146_133, w146_135, w146_137, w146_140, w146_143, w146_144, w146_147, w146_148, w146_150, w146_151, w146_153, w146_156, w146_158, w146_160, w146_162, w146_165, w146_167, w146_169, w146_171, w146_173, w146_176, w146_179, w146_181, Ko_n, Ko_v, vX_i, vX_r, vX_l, vX_j, reduceIte, Nat.reduceAdd]
      rw [hF2 z k0 (by omega)]
      exact loop N 0 τ2 vmJ (by omega) hs2 hC2
  · rw [if_neg hv, Ko_x rfl]
    exact hQ1 hv
