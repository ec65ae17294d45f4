/-! ===== perform, decade, judge ===== -/
/-- a tray's numbers -/
def tyF (σ : St) (t : Int) : Int → Int := fun k => (i64 (σ 1107 0 (40 * t + k))).toInt
theorem tyF_in {σ : St} {t k : Int} : -9223372036854775808 ≤ tyF σ t k ∧ tyF σ t k < 9223372036854775808 := ⟨by have := Int64.le_toInt (i64 (σ 1107 0 (40 * t + k))); unfold tyF; omega, by have := Int64.toInt_lt (i64 (σ 1107 0 (40 * t + k))); unfold tyF; omega⟩
theorem tyF_i {σ : St} {t k : Int} : i64 (tyF σ t k) = i64 (σ 1107 0 (40 * t + k)) := i64_toInt _
def pfK (f : Int → Int) : Nat → (Int → Int) → Int → Int × (Int → Int)
  | 0, K, k => (k, K)
  | m + 1, K, k => if whyK K (f k) = 0 then pfK f m (doK (kpK K) (f k)) (k + 1) else (k, K)
theorem pfK_V {f : Int → Int} : ∀ (m : Nat) (K : Int → Int) (k B : Int), kV K B → kV (pfK f m K k).2 (B + 6516 * m)
  | 0, K, k, B, h => by
    show kV K _
    exact kV_le (by omega) h
  | m + 1, K, k, B, h => by
    simp only [pfK]
    split
    · rename_i e
      have := pfK_V (f := f) m (doK (kpK K) (f k)) (k + 1) (B + 6516) (pdK_V h e)
      exact kV_le (by omega) this
    · exact kV_le (by omega) h
theorem c127K {d : Nat} {k t B : Int} {K : Int → Int} {T : Tt} {σ : St} {Q : vmO → vmH → Prop} (hT : hpT σ) (ht : tie σ 2 K) (hv : kV K B) (hB : B < 800000000) (x0 : -2147483648 ≤ t) (x1 : t < 2147483648)
    (hQ1 : ¬ (0 ≤ t ∧ t < 4) → Q (.inr 0) (E (thr T) σ))
    (hQ2 : 0 ≤ t → t < 4 → σ 1108 0 t = -1 → Q (.inr 2) (E (thr T) σ))
    (hQ3 : 0 ≤ t → t < 4 → σ 1108 0 t ≠ -1 → ∀ τ, fM σ τ → tie τ 2 (pfK (tyF σ t) (σ 1109 0 t).toNat K 0).2 → Q (.inl (some (.int (i32 (pfK (tyF σ t) (σ 1109 0 t).toNat K 0).1)))) (E T τ)) : Ca (d + 10) k 127 [.ref 0, .int (i32 t)] (E T σ) Q := by
  have h0 := ob_hp
  rw [n127 _ _ _ _ _ _ _ h0]
  simp (disch := (first | assumption | omega | exact Nat.le_of_ble_eq_true rfl | rfl)) only [w127_0, w127_1, w127_2, w127_5, w127_6, w127_8, w127_9, w127_12, w127_13, w127_14, w127_17, w127_18, w127_19, w127_22, w127_24, w127_25, w127_26, w127_27, w127_28, w127_29, w127_32, w127_35, w127_38, w127_41, w127_42, Ko_n, Ko_v, vX_i, vX_r, vX_l, vX_j, reduceIte]
  rw [c167 x0 x1 (fun j j0 j1 => ⟨(hT j j0 j1).1, (hT j j0 j1).2.1⟩)]
  by_cases hv2 : 0 ≤ t ∧ t < 4
  · rw [if_pos hv2]
    obtain ⟨t0, t1⟩ := hv2
    have htt := hT t t0 t1
    by_cases hs : σ 1108 0 t = -1
    · rw [if_pos hs, Ko_x rfl]
      exact hQ2 t0 t1 hs
    · rw [if_neg hs]
      have hq := hQ3 t0 t1 hs
      obtain ⟨M, hM⟩ : ∃ M : Nat, σ 1109 0 t = M := ⟨(σ 1109 0 t).toNat, by omega⟩
      rw [hM, show ((M : Int)).toNat = M by omega] at hq
      have loop : ∀ (m n : Nat) (K' : Int → Int) (τ : St), n + m = M → fM σ τ → tie τ 2 K' → kV K' (B + 6516 * n) → pfK (tyF σ t) m K' n = pfK (tyF σ t) M K 0 → Wp (d + 10) M_X11_perform 7 [.ref 0, .int (i32 t), .int (i32 n)] [] (E T τ) Q := by
        intro m
        induction m with
        | zero =>
          intro n K' τ hn hf htK hvK hpf
          have hn : n = M := by omega
          subst hn
          have hq := hq τ hf
          rw [← hpf] at hq
          have e9 : τ 1109 0 = σ 1109 0 := hf 1109 0 (by omega)
          rw [w127_7]
          simp (disch := (first | assumption | omega | exact Nat.le_of_ble_eq_true rfl | rfl)) only [w127_0, w127_1, w127_2, w127_5, w127_6, w127_8, w127_9, w127_12, w127_13, w127_14, w127_17, w127_18, w127_19, w127_22, w127_24, w127_25, w127_26, w127_27, w127_28, w127_29, w127_32, w127_35, w127_38, w127_41, w127_42, Ko_n, Ko_v, vX_i, vX_r, vX_l, vX_j, reduceIte, Nat.reduceAdd, e9, hM, Int.le_refl]
          exact hq htK
        | succ m ih =>
          intro n K' τ hn hf htK hvK hpf
          have e9 : τ 1109 0 = σ 1109 0 := hf 1109 0 (by omega)
          have e7 : τ 1107 0 = σ 1107 0 := hf 1107 0 (by omega)
          have hin := tyF_in (σ := σ) (t := t) (k := n)
          rw [w127_7]
          simp (disch := (first | assumption | omega | exact Nat.le_of_ble_eq_true rfl | rfl)) only [w127_0, w127_1, w127_2, w127_5, w127_6, w127_8, w127_9, w127_12, w127_13, w127_14, w127_17, w127_18, w127_19, w127_22, w127_24, w127_25, w127_26, w127_27, w127_28, w127_29, w127_32, w127_35, w127_38, w127_41, w127_42, Ko_n, Ko_v, vX_i, vX_r, vX_l, vX_j, reduceIte, Nat.reduceAdd, e9, e7, hM, show ¬ (M : Int) ≤ (n : Int) by omega]
          rw [← tyF_i]
          refine c128K htK hvK (by omega) hin.1 hin.2 ?_ ?_
          · intro hw
            have hq := hq τ hf
            rw [← hpf] at hq
            simp only [pfK] at hq
            rw [if_neg hw] at hq
            simp (disch := (first | assumption | omega | exact Nat.le_of_ble_eq_true rfl | rfl)) only [w127_0, w127_1, w127_2, w127_5, w127_6, w127_8, w127_9, w127_12, w127_13, w127_14, w127_17, w127_18, w127_19, w127_22, w127_24, w127_25, w127_26, w127_27, w127_28, w127_29, w127_32, w127_35, w127_38, w127_41, w127_42, Ko_n, Ko_v, vX_i, vX_r, vX_l, vX_j, reduceIte, Nat.reduceAdd]
            exact hq htK
          · intro hw τ' hf' _ htK'
            simp only [pfK] at hpf
            rw [if_pos hw] at hpf
            simp (disch := (first | assumption | omega | exact Nat.le_of_ble_eq_true rfl | rfl)) only [w127_0, w127_1, w127_2, w127_5, w127_6, w127_8, w127_9, w127_12, w127_13, w127_14, w127_17, w127_18, w127_19, w127_22, w127_24, w127_25, w127_26, w127_27, w127_28, w127_29, w127_32, w127_35, w127_38, w127_41, w127_42, Ko_n, Ko_v, vX_i, vX_r, vX_l, vX_j, reduceIte, Nat.reduceAdd, Int.reduceEq]
            refine ih (n + 1) _ τ' (by omega) (fM_t hf hf') htK' ?_ hpf
            have := pdK_V hvK hw
            rw [show B + 6516 * ((n + 1 : Nat) : Int) = B + 6516 * (n : Int) + 6516 by omega]
            exact this
      simp (disch := (first | assumption | omega | exact Nat.le_of_ble_eq_true rfl | rfl)) only [w127_0, w127_1, w127_2, w127_5, w127_6, w127_8, w127_9, w127_12, w127_13, w127_14, w127_17, w127_18, w127_19, w127_22, w127_24, w127_25, w127_26, w127_27, w127_28, w127_29, w127_32, w127_35, w127_38, w127_41, w127_42, Ko_n, Ko_v, vX_i, vX_r, vX_l, vX_j, reduceIte, Nat.reduceAdd]
      exact loop M 0 K σ (by omega) fM_r ht (kV_le (by omega) hv) rfl
  · rw [if_neg hv2, Ko_x rfl]
    exact hQ1 hv2
def dcK : Nat → (Int → Int) → Int → Int → Int × (Int → Int)
  | 0, K, _, n => (n, K)
  | m + 1, K, s, n => if whyK K (dwD (K 3) (K 1 * K 2) s).1 = 0 then dcK m (doK (kpK K) (dwD (K 3) (K 1 * K 2) s).1) (dwD (K 3) (K 1 * K 2) s).2 (n + 1) else dcK m K (dwD (K 3) (K 1 * K 2) s).2 n
theorem dcK_V : ∀ (m : Nat) (K : Int → Int) (s n B : Int), kV K B → kV (dcK m K s n).2 (B + 6516 * m)
  | 0, K, s, n, B, h => by
    show kV K _
    exact kV_le (by omega) h
  | m + 1, K, s, n, B, h => by
    simp only [dcK]
    split
    · rename_i e
      have := dcK_V m (doK (kpK K) (dwD (K 3) (K 1 * K 2) s).1) (dwD (K 3) (K 1 * K 2) s).2 (n + 1) (B + 6516) (pdK_V h e)
      exact kV_le (by omega) this
    · have := dcK_V m K (dwD (K 3) (K 1 * K 2) s).2 n B h
      exact kV_le (by omega) this
theorem dwD_in {nw N s : Int} (w0 : 0 ≤ nw) (w1 : nw ≤ 5) (N0 : 0 < N) (N1 : N ≤ 36) : -2 ≤ (dwD nw N s).1 ∧ (dwD nw N s).1 < 2400 := by
  have e1 := Int.emod_nonneg (us (lcg (lcg s)) 16) (by omega : N ≠ 0)
  have e2 := Int.emod_lt_of_pos (us (lcg (lcg s)) 16) N0
  have e3 := Int.emod_nonneg (us (lcg (lcg (lcg s))) 16) (by omega : N ≠ 0)
  have e4 := Int.emod_lt_of_pos (us (lcg (lcg (lcg s))) 16) N0
  unfold dwD
  by_cases c1 : us (lcg s) 16 % 4 = 0
  · rw [if_pos c1]; exact ⟨by show (-2 : Int) ≤ -1; omega, by show (-1 : Int) < 2400; omega⟩
  · rw [if_neg c1]
    by_cases c2 : us (lcg s) 16 % 4 = 1
    · rw [if_pos c2]
      by_cases c3 : nw = 0
      · rw [if_pos c3]; exact ⟨Int.le_refl _, by show (-2 : Int) < 2400; omega⟩
      · rw [if_neg c3]
        have e5 := Int.emod_nonneg (us (lcg (lcg s)) 16) c3
        have e6 := Int.emod_lt_of_pos (us (lcg (lcg s)) 16) (by omega : 0 < nw)
        dsimp only
        omega
    · rw [if_neg c2]
      by_cases c3 : us (lcg s) 16 % 4 = 2
      · rw [if_pos c3]; dsimp only; omega
      · rw [if_neg c3]; dsimp only; omega
theorem c129K {d : Nat} {k sd tm B : Int} {K : Int → Int} {T : Tt} {σ : St} {Q : vmO → vmH → Prop} (ht : tie σ 2 K) (hv : kV K B) (hB : B < 800000000) (y0 : -2147483648 ≤ tm) (y1 : tm < 2147483648)
    (hQ1 : ¬ (1 ≤ tm ∧ tm ≤ 30) → Q (.inr 1) (E (thr T) σ))
    (hQ2 : 1 ≤ tm → tm ≤ 30 → K 1 * K 2 = 0 → Q (.inr 2) (E (thr T) σ))
    (hQ3 : 1 ≤ tm → tm ≤ 30 → K 1 * K 2 ≠ 0 → ∀ τ, fM σ τ → tie τ 2 (dcK tm.toNat K sd 0).2 → Q (.inl (some (.int (i32 (dcK tm.toNat K sd 0).1)))) (E T τ)) : Ca (d + 10) k 129 [.ref 0, .int (i32 sd), .int (i32 tm)] (E T σ) Q := by
  have h0 := ob_hp; have h2 := ob_st; have h3 := ob_p3; have hde := ob_de
  have hm := wh_mul0 hv.1.1
  have e1 : σ 401 3 0 = K 1 := ht.1.2.1
  have e2 : σ 402 3 0 = K 2 := ht.1.2.2.1
  rw [n129 _ _ _ _ _ _ _ _ h0]
  by_cases hd : 1 ≤ tm ∧ tm ≤ 30
  · simp (disch := (first | assumption | omega | exact Nat.le_of_ble_eq_true rfl | rfl)) only [w129_0, w129_1, w129_2, w129_5, w129_6, w129_8, w129_11, w129_12, w129_15, w129_16, w129_19, w129_20, w129_23, w129_26, w129_29, w129_32, w129_33, w129_36, w129_37, w129_40, w129_41, w129_42, w129_43, w129_46, w129_47, w129_50, w129_51, w129_55, w129_56, w129_59, w129_60, w129_61, w129_64, w129_65, w129_68, w129_71, w129_74, w129_77, w129_80, w129_83, w129_86, w129_89, w129_90, Ko_n, Ko_v, vX_i, vX_r, vX_l, vX_j, reduceIte, Nat.reduceAdd, show ¬ tm < 1 by omega, show ¬ 30 < tm by omega]
    rw [c169 (by omega) (Or.inr rfl), if_neg (by omega)]
    simp (disch := (first | assumption | omega | exact Nat.le_of_ble_eq_true rfl | rfl)) only [w129_0, w129_1, w129_2, w129_5, w129_6, w129_8, w129_11, w129_12, w129_15, w129_16, w129_19, w129_20, w129_23, w129_26, w129_29, w129_32, w129_33, w129_36, w129_37, w129_40, w129_41, w129_42, w129_43, w129_46, w129_47, w129_50, w129_51, w129_55, w129_56, w129_59, w129_60, w129_61, w129_64, w129_65, w129_68, w129_71, w129_74, w129_77, w129_80, w129_83, w129_86, w129_89, w129_90, Ko_n, Ko_v, vX_i, vX_r, vX_l, vX_j, reduceIte, Nat.reduceAdd, c26, e1, e2]
    by_cases hz : K 1 * K 2 = 0
    · simp (disch := (first | assumption | omega | exact Nat.le_of_ble_eq_true rfl | rfl)) only [w129_0, w129_1, w129_2, w129_5, w129_6, w129_8, w129_11, w129_12, w129_15, w129_16, w129_19, w129_20, w129_23, w129_26, w129_29, w129_32, w129_33, w129_36, w129_37, w129_40, w129_41, w129_42, w129_43, w129_46, w129_47, w129_50, w129_51, w129_55, w129_56, w129_59, w129_60, w129_61, w129_64, w129_65, w129_68, w129_71, w129_74, w129_77, w129_80, w129_83, w129_86, w129_89, w129_90, Ko_n, Ko_v, vX_i, vX_r, vX_l, vX_j, reduceIte, Nat.reduceAdd, show K 1 * K 2 ≤ 0 by omega]
      rw [c170 (by omega) (Or.inl rfl), if_pos rfl, Ko_x rfl]
      exact hQ2 hd.1 hd.2 hz
    · have hq := hQ3 hd.1 hd.2 hz
      simp (disch := (first | assumption | omega | exact Nat.le_of_ble_eq_true rfl | rfl)) only [w129_0, w129_1, w129_2, w129_5, w129_6, w129_8, w129_11, w129_12, w129_15, w129_16, w129_19, w129_20, w129_23, w129_26, w129_29, w129_32, w129_33, w129_36, w129_37, w129_40, w129_41, w129_42, w129_43, w129_46, w129_47, w129_50, w129_51, w129_55, w129_56, w129_59, w129_60, w129_61, w129_64, w129_65, w129_68, w129_71, w129_74, w129_77, w129_80, w129_83, w129_86, w129_89, w129_90, Ko_n, Ko_v, vX_i, vX_r, vX_l, vX_j, reduceIte, Nat.reduceAdd, show ¬ K 1 * K 2 ≤ 0 by omega]
      rw [c170 (by omega) (Or.inr rfl), if_neg (by omega)]
      simp (disch := (first | assumption | omega | exact Nat.le_of_ble_eq_true rfl | rfl)) only [w129_0, w129_1, w129_2, w129_5, w129_6, w129_8, w129_11, w129_12, w129_15, w129_16, w129_19, w129_20, w129_23, w129_26, w129_29, w129_32, w129_33, w129_36, w129_37, w129_40, w129_41, w129_42, w129_43, w129_46, w129_47, w129_50, w129_51, w129_55, w129_56, w129_59, w129_60, w129_61, w129_64, w129_65, w129_68, w129_71, w129_74, w129_77, w129_80, w129_83, w129_86, w129_89, w129_90, Ko_n, Ko_v, vX_i, vX_r, vX_l, vX_j, reduceIte, Nat.reduceAdd]
      have loop : ∀ (m n : Nat) (c : Nat) (s : Int) (K' : Int → Int) (τ : St), n + m = tm.toNat → c ≤ n → fM σ τ → τ 102 179 0 = s → tie τ 2 K' → kV K' (B + 6516 * n) → dcK m K' s c = dcK tm.toNat K sd 0 → K' 1 * K' 2 = K 1 * K 2 → Wp (d + 10) M_X11_decade 53 [.ref 0, .int (i32 sd), .int (i32 tm), .int (i32 c), .int (i32 n)] [] (E T τ) Q := by
        intro m
        induction m with
        | zero =>
          intro n c s K' τ hn hc hf hsd htK hvK hdc hKK
          have hq := hq τ hf
          rw [← hdc] at hq
          rw [w129_53]
          simp (disch := (first | assumption | omega | exact Nat.le_of_ble_eq_true rfl | rfl)) only [w129_0, w129_1, w129_2, w129_5, w129_6, w129_8, w129_11, w129_12, w129_15, w129_16, w129_19, w129_20, w129_23, w129_26, w129_29, w129_32, w129_33, w129_36, w129_37, w129_40, w129_41, w129_42, w129_43, w129_46, w129_47, w129_50, w129_51, w129_55, w129_56, w129_59, w129_60, w129_61, w129_64, w129_65, w129_68, w129_71, w129_74, w129_77, w129_80, w129_83, w129_86, w129_89, w129_90, Ko_n, Ko_v, vX_i, vX_r, vX_l, vX_j, reduceIte, Nat.reduceAdd, show tm ≤ (n : Int) by omega]
          exact hq htK
        | succ m ih =>
          intro n c s K' τ hn hc hf hsd htK hvK hdc hKK
          have q1 : τ 401 3 0 * τ 402 3 0 = K' 1 * K' 2 := by rw [show τ 401 3 0 = K' 1 from htK.1.2.1, show τ 402 3 0 = K' 2 from htK.1.2.2.1]
          have q4 : τ 404 3 0 = K' 3 := htK.1.2.2.2.1
          have h33 := hvK.1.2.1
          have hin := dwD_in (nw := K' 3) (N := K' 1 * K' 2) (s := s) h33.1 h33.2 (by omega) (by omega)
          rw [w129_53]
          simp (disch := (first | assumption | omega | exact Nat.le_of_ble_eq_true rfl | rfl)) only [w129_0, w129_1, w129_2, w129_5, w129_6, w129_8, w129_11, w129_12, w129_15, w129_16, w129_19, w129_20, w129_23, w129_26, w129_29, w129_32, w129_33, w129_36, w129_37, w129_40, w129_41, w129_42, w129_43, w129_46, w129_47, w129_50, w129_51, w129_55, w129_56, w129_59, w129_60, w129_61, w129_64, w129_65, w129_68, w129_71, w129_74, w129_77, w129_80, w129_83, w129_86, w129_89, w129_90, Ko_n, Ko_v, vX_i, vX_r, vX_l, vX_j, reduceIte, Nat.reduceAdd, show ¬ tm ≤ (n : Int) by omega]
          rw [c14 (N := K' 1 * K' 2) h3 q1 (by omega) (by omega) (by omega) (by omega), q4, hsd]
          simp (disch := (first | assumption | omega | exact Nat.le_of_ble_eq_true rfl | rfl)) only [w129_0, w129_1, w129_2, w129_5, w129_6, w129_8, w129_11, w129_12, w129_15, w129_16, w129_19, w129_20, w129_23, w129_26, w129_29, w129_32, w129_33, w129_36, w129_37, w129_40, w129_41, w129_42, w129_43, w129_46, w129_47, w129_50, w129_51, w129_55, w129_56, w129_59, w129_60, w129_61, w129_64, w129_65, w129_68, w129_71, w129_74, w129_77, w129_80, w129_83, w129_86, w129_89, w129_90, Ko_n, Ko_v, vX_i, vX_r, vX_l, vX_j, reduceIte, Nat.reduceAdd]
          have hsg : sg τ (upA τ 102 179 fun _ => (dwD (K' 3) (K' 1 * K' 2) s).2) := sg_u sg_r (by omega)
          have h66 := hvK.1.2.2.2.2.1
          have htK2 := tie_fr hsg h66 h33.2 htK
          simp only [dcK] at hdc
          refine c128K htK2 hvK (by omega) (by omega) (by omega) ?_ ?_
          · intro hw
            rw [if_neg hw] at hdc
            simp (disch := (first | assumption | omega | exact Nat.le_of_ble_eq_true rfl | rfl)) only [w129_0, w129_1, w129_2, w129_5, w129_6, w129_8, w129_11, w129_12, w129_15, w129_16, w129_19, w129_20, w129_23, w129_26, w129_29, w129_32, w129_33, w129_36, w129_37, w129_40, w129_41, w129_42, w129_43, w129_46, w129_47, w129_50, w129_51, w129_55, w129_56, w129_59, w129_60, w129_61, w129_64, w129_65, w129_68, w129_71, w129_74, w129_77, w129_80, w129_83, w129_86, w129_89, w129_90, Ko_n, Ko_v, vX_i, vX_r, vX_l, vX_j, reduceIte, Nat.reduceAdd]
            refine ih (n + 1) c _ K' _ (by omega) (by omega) (fM_t hf (sg_fM hsg)) (by rw [upA_s]) htK2 (kV_le (by omega) hvK) hdc hKK
          · intro hw τ' hf' h102 htK'
            rw [if_pos hw] at hdc
            simp (disch := (first | assumption | omega | exact Nat.le_of_ble_eq_true rfl | rfl)) only [w129_0, w129_1, w129_2, w129_5, w129_6, w129_8, w129_11, w129_12, w129_15, w129_16, w129_19, w129_20, w129_23, w129_26, w129_29, w129_32, w129_33, w129_36, w129_37, w129_40, w129_41, w129_42, w129_43, w129_46, w129_47, w129_50, w129_51, w129_55, w129_56, w129_59, w129_60, w129_61, w129_64, w129_65, w129_68, w129_71, w129_74, w129_77, w129_80, w129_83, w129_86, w129_89, w129_90, Ko_n, Ko_v, vX_i, vX_r, vX_l, vX_j, reduceIte, Nat.reduceAdd, Int.reduceEq]
            have hv2 := pdK_V hvK hw
            have hlo := kpK_lo h66.1 h66.2
            have hst := (doK_V (kpK_V hvK) (Int.le_refl _) (by rw [mdK_why (loK_md hlo) hvK]; exact hw)).1
            refine ih (n + 1) (c + 1) _ _ τ' (by omega) (by omega) (fM_t hf (fM_t (sg_fM hsg) hf')) (by rw [h102, upA_s]) htK' ?_ ?_ ?_
            · rw [show B + 6516 * ((n + 1 : Nat) : Int) = B + 6516 * (n : Int) + 6516 by omega]
              exact hv2
            · exact hdc
            · rw [hst 1 (by omega), hst 2 (by omega), hlo 1 (by omega), hlo 2 (by omega)]
              exact hKK
      have hsg : sg σ (upA σ 102 179 fun _ => sd) := sg_u sg_r (by omega)
      exact loop tm.toNat 0 0 sd K _ (by omega) (by omega) (sg_fM hsg) (by rw [upA_s]) (tie_fr hsg hv.1.2.2.2.2.1 hv.1.2.1.2 ht) (kV_le (by omega) hv) rfl rfl
  · have hq := hQ1 hd
    by_cases d2 : tm < 1
    · simp (disch := (first | assumption | omega | exact Nat.le_of_ble_eq_true rfl | rfl)) only [w129_0, w129_1, w129_2, w129_5, w129_6, w129_8, w129_11, w129_12, w129_15, w129_16, w129_19, w129_20, w129_23, w129_26, w129_29, w129_32, w129_33, w129_36, w129_37, w129_40, w129_41, w129_42, w129_43, w129_46, w129_47, w129_50, w129_51, w129_55, w129_56, w129_59, w129_60, w129_61, w129_64, w129_65, w129_68, w129_71, w129_74, w129_77, w129_80, w129_83, w129_86, w129_89, w129_90, Ko_n, Ko_v, vX_i, vX_r, vX_l, vX_j, reduceIte, Nat.reduceAdd, d2]
      rw [c169 (by omega) (Or.inl rfl), if_pos rfl, Ko_x rfl]
      exact hq
    · simp (disch := (first | assumption | omega | exact Nat.le_of_ble_eq_true rfl | rfl)) only [w129_0, w129_1, w129_2, w129_5, w129_6, w129_8, w129_11, w129_12, w129_15, w129_16, w129_19, w129_20, w129_23, w129_26, w129_29, w129_32, w129_33, w129_36, w129_37, w129_40, w129_41, w129_42, w129_43, w129_46, w129_47, w129_50, w129_51, w129_55, w129_56, w129_59, w129_60, w129_61, w129_64, w129_65, w129_68, w129_71, w129_74, w129_77, w129_80, w129_83, w129_86, w129_89, w129_90, Ko_n, Ko_v, vX_i, vX_r, vX_l, vX_j, reduceIte, Nat.reduceAdd, d2, show 30 < tm by omega]
      rw [c169 (by omega) (Or.inl rfl), if_pos rfl, Ko_x rfl]
      exact hq
def jdK (f : Int → Int) : Nat → (Int → Int) → Int → (Int → Int) × Int × Int
  | 0, K, k => (K, k, 0)
  | m + 1, K, k => if whyK K (f k) = 0 then jdK f m (doK K (f k)) (k + 1) else (K, k, whyK K (f k))
def jdA (x : (Int → Int) × Int × Int) (wh : Int) : Int := if wh = 0 then (if x.2.2 = 0 then -1 else x.2.1) else if wh = 1 then x.2.2 else if wh = 2 then x.1 89 else x.1 91
theorem whyK_in {K : Int → Int} {v : Int} : 0 ≤ whyK K v ∧ whyK K v ≤ 2 := by unfold whyK; repeat' split <;> omega
theorem c126K {d : Nat} {k t wh B : Int} {K : Int → Int} {T : Tt} {σ : St} {Q : vmO → vmH → Prop} (hT : hpT σ) (ht : tie σ 2 K) (hv : kV K B) (hB : B < 800000000) (x0 : -2147483648 ≤ t) (x1 : t < 2147483648) (y0 : -2147483648 ≤ wh) (y1 : wh < 2147483648)
    (hQ1 : ¬ (0 ≤ t ∧ t < 4) → Q (.inr 0) (E (thr T) σ))
    (hQ2 : 0 ≤ t → t < 4 → σ 1108 0 t = -1 → Q (.inr 2) (E (thr T) σ))
    (hQ3 : 0 ≤ t → t < 4 → σ 1108 0 t ≠ -1 → ¬ (0 ≤ wh ∧ wh ≤ 3) → Q (.inr 1) (E (thr T) σ))
    (hQ4 : 0 ≤ t → t < 4 → σ 1108 0 t ≠ -1 → 0 ≤ wh → wh ≤ 3 → ∀ τ, sg σ τ → Q (.inl (some (.int (i32 (jdA (jdK (tyF σ t) (σ 1109 0 t).toNat K 0) wh))))) (E T τ)) : Ca (d + 10) k 126 [.ref 0, .int (i32 t), .int (i32 wh)] (E T σ) Q := by
  have h0 := ob_hp; have h2 := ob_st; have h3 := ob_p3; have h10 := ob_n10; have htr := ob_tr; have hde := ob_de
  have hW := tie_hp ht hv (by omega)
  rw [n126 _ _ _ _ _ _ _ _ h0]
  simp (disch := (first | assumption | omega | exact Nat.le_of_ble_eq_true rfl | rfl)) only [w126_0, w126_1, w126_2, w126_5, w126_6, w126_9, w126_10, w126_11, w126_14, w126_15, w126_18, w126_19, w126_22, w126_23, w126_26, w126_27, w126_30, w126_33, w126_36, w126_37, w126_38, w126_39, w126_42, w126_43, w126_46, w126_47, w126_48, w126_51, w126_52, w126_55, w126_57, w126_58, w126_59, w126_60, w126_61, w126_62, w126_64, w126_65, w126_68, w126_69, w126_72, w126_75, w126_76, w126_79, w126_81, w126_84, w126_86, w126_88, w126_91, w126_94, w126_95, w126_98, w126_99, w126_102, w126_105, w126_106, w126_109, w126_111, w126_112, w126_115, w126_118, w126_121, w126_122, w126_148, w126_150, w126_153, w126_154, w126_157, w126_158, w126_159, w126_161, w126_162, w126_163, w126_166, w126_169, w126_170, w126_171, w126_174, w126_177, Ko_n, Ko_v, vX_i, vX_r, vX_l, vX_j, reduceIte]
  rw [c167 x0 x1 (fun j j0 j1 => ⟨(hT j j0 j1).1, (hT j j0 j1).2.1⟩)]
  by_cases hv2 : 0 ≤ t ∧ t < 4
  · rw [if_pos hv2]
    obtain ⟨t0, t1⟩ := hv2
    have htt := hT t t0 t1
    by_cases hs : σ 1108 0 t = -1
    · rw [if_pos hs, Ko_x rfl]
      exact hQ2 t0 t1 hs
    · rw [if_neg hs]
      by_cases hd : 0 ≤ wh ∧ wh ≤ 3
      · have hq := hQ4 t0 t1 hs hd.1 hd.2
        obtain ⟨M, hM⟩ : ∃ M : Nat, σ 1109 0 t = M := ⟨(σ 1109 0 t).toNat, by omega⟩
        rw [hM, show ((M : Int)).toNat = M by omega] at hq
        simp (disch := (first | assumption | omega | exact Nat.le_of_ble_eq_true rfl | rfl)) only [w126_0, w126_1, w126_2, w126_5, w126_6, w126_9, w126_10, w126_11, w126_14, w126_15, w126_18, w126_19, w126_22, w126_23, w126_26, w126_27, w126_30, w126_33, w126_36, w126_37, w126_38, w126_39, w126_42, w126_43, w126_46, w126_47, w126_48, w126_51, w126_52, w126_55, w126_57, w126_58, w126_59, w126_60, w126_61, w126_62, w126_64, w126_65, w126_68, w126_69, w126_72, w126_75, w126_76, w126_79, w126_81, w126_84, w126_86, w126_88, w126_91, w126_94, w126_95, w126_98, w126_99, w126_102, w126_105, w126_106, w126_109, w126_111, w126_112, w126_115, w126_118, w126_121, w126_122, w126_148, w126_150, w126_153, w126_154, w126_157, w126_158, w126_159, w126_161, w126_162, w126_163, w126_166, w126_169, w126_170, w126_171, w126_174, w126_177, Ko_n, Ko_v, vX_i, vX_r, vX_l, vX_j, reduceIte, Nat.reduceAdd, show ¬ wh < 0 by omega, show ¬ 3 < wh by omega]
        rw [c169 (by omega) (Or.inr rfl), if_neg (by omega)]
        simp (disch := (first | assumption | omega | exact Nat.le_of_ble_eq_true rfl | rfl)) only [w126_0, w126_1, w126_2, w126_5, w126_6, w126_9, w126_10, w126_11, w126_14, w126_15, w126_18, w126_19, w126_22, w126_23, w126_26, w126_27, w126_30, w126_33, w126_36, w126_37, w126_38, w126_39, w126_42, w126_43, w126_46, w126_47, w126_48, w126_51, w126_52, w126_55, w126_57, w126_58, w126_59, w126_60, w126_61, w126_62, w126_64, w126_65, w126_68, w126_69, w126_72, w126_75, w126_76, w126_79, w126_81, w126_84, w126_86, w126_88, w126_91, w126_94, w126_95, w126_98, w126_99, w126_102, w126_105, w126_106, w126_109, w126_111, w126_112, w126_115, w126_118, w126_121, w126_122, w126_148, w126_150, w126_153, w126_154, w126_157, w126_158, w126_159, w126_161, w126_162, w126_163, w126_166, w126_169, w126_170, w126_171, w126_174, w126_177, Ko_n, Ko_v, vX_i, vX_r, vX_l, vX_j, reduceIte, Nat.reduceAdd]
        rw [c81 htr h10]
        have fin : ∀ (n : Nat) (y : Int) (K' : Int → Int) (τ : St) (l5 l6 : Value), 0 ≤ y → y ≤ 2 → sg σ τ → tsc τ 67 K' 7 → jdK (tyF σ t) M K 0 = (K', (n : Int), y) → Wp (d + 10) M_X11_judge 121 [.ref 0, .int (i32 t), .int (i32 wh), .int (i32 n), .int (i32 y), l5, l6] [] (E T τ) Q := by
          intro n y K' τ l5 l6 y0 y1 hsg htK hjd
          have hq := hq τ hsg
          rw [hjd] at hq
          unfold jdA at hq
          have hW7 := tsc_W.mp htK
          have hsw : wh = 0 ∨ wh = 1 ∨ wh = 2 ∨ wh = 3 := by omega
          rcases hsw with rfl | rfl | rfl | rfl
          · by_cases hy : y = 0
            · simp only [if_true, hy] at hq
              simp (disch := (first | assumption | omega | exact Nat.le_of_ble_eq_true rfl | rfl)) only [w126_0, w126_1, w126_2, w126_5, w126_6, w126_9, w126_10, w126_11, w126_14, w126_15, w126_18, w126_19, w126_22, w126_23, w126_26, w126_27, w126_30, w126_33, w126_36, w126_37, w126_38, w126_39, w126_42, w126_43, w126_46, w126_47, w126_48, w126_51, w126_52, w126_55, w126_57, w126_58, w126_59, w126_60, w126_61, w126_62, w126_64, w126_65, w126_68, w126_69, w126_72, w126_75, w126_76, w126_79, w126_81, w126_84, w126_86, w126_88, w126_91, w126_94, w126_95, w126_98, w126_99, w126_102, w126_105, w126_106, w126_109, w126_111, w126_112, w126_115, w126_118, w126_121, w126_122, w126_148, w126_150, w126_153, w126_154, w126_157, w126_158, w126_159, w126_161, w126_162, w126_163, w126_166, w126_169, w126_170, w126_171, w126_174, w126_177, Ko_n, Ko_v, vX_i, vX_r, vX_l, vX_j, reduceIte, Nat.reduceAdd, vmSwitch, Int.reduceEq, hy, not_true_eq_false]
              exact hq
            · simp only [if_true, hy, if_false] at hq
              simp (disch := (first | assumption | omega | exact Nat.le_of_ble_eq_true rfl | rfl)) only [w126_0, w126_1, w126_2, w126_5, w126_6, w126_9, w126_10, w126_11, w126_14, w126_15, w126_18, w126_19, w126_22, w126_23, w126_26, w126_27, w126_30, w126_33, w126_36, w126_37, w126_38, w126_39, w126_42, w126_43, w126_46, w126_47, w126_48, w126_51, w126_52, w126_55, w126_57, w126_58, w126_59, w126_60, w126_61, w126_62, w126_64, w126_65, w126_68, w126_69, w126_72, w126_75, w126_76, w126_79, w126_81, w126_84, w126_86, w126_88, w126_91, w126_94, w126_95, w126_98, w126_99, w126_102, w126_105, w126_106, w126_109, w126_111, w126_112, w126_115, w126_118, w126_121, w126_122, w126_148, w126_150, w126_153, w126_154, w126_157, w126_158, w126_159, w126_161, w126_162, w126_163, w126_166, w126_169, w126_170, w126_171, w126_174, w126_177, Ko_n, Ko_v, vX_i, vX_r, vX_l, vX_j, reduceIte, Nat.reduceAdd, vmSwitch, Int.reduceEq, hy, not_false_eq_true]
              exact hq
          · simp (disch := (first | assumption | omega | exact Nat.le_of_ble_eq_true rfl | rfl)) only [w126_0, w126_1, w126_2, w126_5, w126_6, w126_9, w126_10, w126_11, w126_14, w126_15, w126_18, w126_19, w126_22, w126_23, w126_26, w126_27, w126_30, w126_33, w126_36, w126_37, w126_38, w126_39, w126_42, w126_43, w126_46, w126_47, w126_48, w126_51, w126_52, w126_55, w126_57, w126_58, w126_59, w126_60, w126_61, w126_62, w126_64, w126_65, w126_68, w126_69, w126_72, w126_75, w126_76, w126_79, w126_81, w126_84, w126_86, w126_88, w126_91, w126_94, w126_95, w126_98, w126_99, w126_102, w126_105, w126_106, w126_109, w126_111, w126_112, w126_115, w126_118, w126_121, w126_122, w126_148, w126_150, w126_153, w126_154, w126_157, w126_158, w126_159, w126_161, w126_162, w126_163, w126_166, w126_169, w126_170, w126_171, w126_174, w126_177, Ko_n, Ko_v, vX_i, vX_r, vX_l, vX_j, reduceIte, Nat.reduceAdd, vmSwitch, Int.reduceEq]
            exact hq
          · simp (disch := (first | assumption | omega | exact Nat.le_of_ble_eq_true rfl | rfl)) only [w126_0, w126_1, w126_2, w126_5, w126_6, w126_9, w126_10, w126_11, w126_14, w126_15, w126_18, w126_19, w126_22, w126_23, w126_26, w126_27, w126_30, w126_33, w126_36, w126_37, w126_38, w126_39, w126_42, w126_43, w126_46, w126_47, w126_48, w126_51, w126_52, w126_55, w126_57, w126_58, w126_59, w126_60, w126_61, w126_62, w126_64, w126_65, w126_68, w126_69, w126_72, w126_75, w126_76, w126_79, w126_81, w126_84, w126_86, w126_88, w126_91, w126_94, w126_95, w126_98, w126_99, w126_102, w126_105, w126_106, w126_109, w126_111, w126_112, w126_115, w126_118, w126_121, w126_122, w126_148, w126_150, w126_153, w126_154, w126_157, w126_158, w126_159, w126_161, w126_162, w126_163, w126_166, w126_169, w126_170, w126_171, w126_174, w126_177, Ko_n, Ko_v, vX_i, vX_r, vX_l, vX_j, reduceIte, Nat.reduceAdd, vmSwitch, Int.reduceEq]
            rw [hW7.2.2.1]
            exact hq
          · simp (disch := (first | assumption | omega | exact Nat.le_of_ble_eq_true rfl | rfl)) only [w126_0, w126_1, w126_2, w126_5, w126_6, w126_9, w126_10, w126_11, w126_14, w126_15, w126_18, w126_19, w126_22, w126_23, w126_26, w126_27, w126_30, w126_33, w126_36, w126_37, w126_38, w126_39, w126_42, w126_43, w126_46, w126_47, w126_48, w126_51, w126_52, w126_55, w126_57, w126_58, w126_59, w126_60, w126_61, w126_62, w126_64, w126_65, w126_68, w126_69, w126_72, w126_75, w126_76, w126_79, w126_81, w126_84, w126_86, w126_88, w126_91, w126_94, w126_95, w126_98, w126_99, w126_102, w126_105, w126_106, w126_109, w126_111, w126_112, w126_115, w126_118, w126_121, w126_122, w126_148, w126_150, w126_153, w126_154, w126_157, w126_158, w126_159, w126_161, w126_162, w126_163, w126_166, w126_169, w126_170, w126_171, w126_174, w126_177, Ko_n, Ko_v, vX_i, vX_r, vX_l, vX_j, reduceIte, Nat.reduceAdd, vmSwitch, Int.reduceEq]
            rw [hW7.2.2.2.2]
            exact hq
        have loop : ∀ (m n : Nat) (K' : Int → Int) (τ : St) (l5 l6 : Value), n + m = M → sg σ τ → tpl τ 3 K' → tsc τ 67 K' 7 → kV K' (B + 6516 * n) → jdK (tyF σ t) m K' n = jdK (tyF σ t) M K 0 → Wp (d + 10) M_X11_judge 41 [.ref 0, .int (i32 t), .int (i32 wh), .int (i32 n), .int (i32 0), l5, l6] [] (E T τ) Q := by
          intro m
          induction m with
          | zero =>
            intro n K' τ l5 l6 hn hsg htP htK hvK hjd
            have e9 : τ 1109 0 = σ 1109 0 := hsg 1109 0 (by omega)
            rw [w126_41]
            simp (disch := (first | assumption | omega | exact Nat.le_of_ble_eq_true rfl | rfl)) only [w126_0, w126_1, w126_2, w126_5, w126_6, w126_9, w126_10, w126_11, w126_14, w126_15, w126_18, w126_19, w126_22, w126_23, w126_26, w126_27, w126_30, w126_33, w126_36, w126_37, w126_38, w126_39, w126_42, w126_43, w126_46, w126_47, w126_48, w126_51, w126_52, w126_55, w126_57, w126_58, w126_59, w126_60, w126_61, w126_62, w126_64, w126_65, w126_68, w126_69, w126_72, w126_75, w126_76, w126_79, w126_81, w126_84, w126_86, w126_88, w126_91, w126_94, w126_95, w126_98, w126_99, w126_102, w126_105, w126_106, w126_109, w126_111, w126_112, w126_115, w126_118, w126_121, w126_122, w126_148, w126_150, w126_153, w126_154, w126_157, w126_158, w126_159, w126_161, w126_162, w126_163, w126_166, w126_169, w126_170, w126_171, w126_174, w126_177, Ko_n, Ko_v, vX_i, vX_r, vX_l, vX_j, reduceIte, Nat.reduceAdd, e9, hM, show (M : Int) ≤ (n : Int) by omega]
            have := fin n 0 K' τ l5 l6 (by omega) (by omega) hsg htK hjd.symm
            simp (disch := (first | assumption | omega | exact Nat.le_of_ble_eq_true rfl | rfl)) only [w126_0, w126_1, w126_2, w126_5, w126_6, w126_9, w126_10, w126_11, w126_14, w126_15, w126_18, w126_19, w126_22, w126_23, w126_26, w126_27, w126_30, w126_33, w126_36, w126_37, w126_38, w126_39, w126_42, w126_43, w126_46, w126_47, w126_48, w126_51, w126_52, w126_55, w126_57, w126_58, w126_59, w126_60, w126_61, w126_62, w126_64, w126_65, w126_68, w126_69, w126_72, w126_75, w126_76, w126_79, w126_81, w126_84, w126_86, w126_88, w126_91, w126_94, w126_95, w126_98, w126_99, w126_102, w126_105, w126_106, w126_109, w126_111, w126_112, w126_115, w126_118, w126_121, w126_122, w126_148, w126_150, w126_153, w126_154, w126_157, w126_158, w126_159, w126_161, w126_162, w126_163, w126_166, w126_169, w126_170, w126_171, w126_174, w126_177, Ko_n, Ko_v, vX_i, vX_r, vX_l, vX_j, reduceIte, Nat.reduceAdd] at this
            exact this
          | succ m ih =>
            intro n K' τ l5 l6 hn hsg htP htK hvK hjd
            have e9 : τ 1109 0 = σ 1109 0 := hsg 1109 0 (by omega)
            have e7 : τ 1107 0 = σ 1107 0 := hsg 1107 0 (by omega)
            have hin := tyF_in (σ := σ) (t := t) (k := n)
            have h33 := hvK.1.2.1
            have hS := tsc_sc htK hvK.2.1 (by omega)
            have hge : geo τ 3 (K' 1) (K' 2) := htP.2.2.2.2.2.2.2.2.2.1
            have q4 : τ 404 3 0 = K' 3 := htP.2.2.2.1
            have hyi := whyK_in (K := K') (v := tyF σ t n)
            rw [w126_41]
            simp (disch := (first | assumption | omega | exact Nat.le_of_ble_eq_true rfl | rfl)) only [w126_0, w126_1, w126_2, w126_5, w126_6, w126_9, w126_10, w126_11, w126_14, w126_15, w126_18, w126_19, w126_22, w126_23, w126_26, w126_27, w126_30, w126_33, w126_36, w126_37, w126_38, w126_39, w126_42, w126_43, w126_46, w126_47, w126_48, w126_51, w126_52, w126_55, w126_57, w126_58, w126_59, w126_60, w126_61, w126_62, w126_64, w126_65, w126_68, w126_69, w126_72, w126_75, w126_76, w126_79, w126_81, w126_84, w126_86, w126_88, w126_91, w126_94, w126_95, w126_98, w126_99, w126_102, w126_105, w126_106, w126_109, w126_111, w126_112, w126_115, w126_118, w126_121, w126_122, w126_148, w126_150, w126_153, w126_154, w126_157, w126_158, w126_159, w126_161, w126_162, w126_163, w126_166, w126_169, w126_170, w126_171, w126_174, w126_177, Ko_n, Ko_v, vX_i, vX_r, vX_l, vX_j, reduceIte, Nat.reduceAdd, e9, e7, hM, show ¬ (M : Int) ≤ (n : Int) by omega]
            rw [← tyF_i, c10 (W := K' 1) (H := K' 2) h3 htr hge hvK.1.1 hS.1 hin.1 hin.2 (by omega) (by omega) (fun w hw => by
              rw [q4] at hw
              rw [((tsc_W.mp htK).2.1 w (by omega) hw).1]
              have := (kV_w hvK (by omega) hw).2.2.1
              have := wh_mul0 hvK.1.1
              omega), whyE htP htK hvK]
            simp only [jdK] at hjd
            by_cases hw : whyK K' (tyF σ t n) = 0
            · rw [if_pos hw] at hjd
              simp (disch := (first | assumption | omega | exact Nat.le_of_ble_eq_true rfl | rfl)) only [w126_0, w126_1, w126_2, w126_5, w126_6, w126_9, w126_10, w126_11, w126_14, w126_15, w126_18, w126_19, w126_22, w126_23, w126_26, w126_27, w126_30, w126_33, w126_36, w126_37, w126_38, w126_39, w126_42, w126_43, w126_46, w126_47, w126_48, w126_51, w126_52, w126_55, w126_57, w126_58, w126_59, w126_60, w126_61, w126_62, w126_64, w126_65, w126_68, w126_69, w126_72, w126_75, w126_76, w126_79, w126_81, w126_84, w126_86, w126_88, w126_91, w126_94, w126_95, w126_98, w126_99, w126_102, w126_105, w126_106, w126_109, w126_111, w126_112, w126_115, w126_118, w126_121, w126_122, w126_148, w126_150, w126_153, w126_154, w126_157, w126_158, w126_159, w126_161, w126_162, w126_163, w126_166, w126_169, w126_170, w126_171, w126_174, w126_177, Ko_n, Ko_v, vX_i, vX_r, vX_l, vX_j, reduceIte, Nat.reduceAdd, hw, Int.reduceEq, i64_i]
              refine actK htr htP htK hvK (by omega) hw ?_
              intro τ' hf hts
              simp (disch := (first | assumption | omega | exact Nat.le_of_ble_eq_true rfl | rfl)) only [w126_0, w126_1, w126_2, w126_5, w126_6, w126_9, w126_10, w126_11, w126_14, w126_15, w126_18, w126_19, w126_22, w126_23, w126_26, w126_27, w126_30, w126_33, w126_36, w126_37, w126_38, w126_39, w126_42, w126_43, w126_46, w126_47, w126_48, w126_51, w126_52, w126_55, w126_57, w126_58, w126_59, w126_60, w126_61, w126_62, w126_64, w126_65, w126_68, w126_69, w126_72, w126_75, w126_76, w126_79, w126_81, w126_84, w126_86, w126_88, w126_91, w126_94, w126_95, w126_98, w126_99, w126_102, w126_105, w126_106, w126_109, w126_111, w126_112, w126_115, w126_118, w126_121, w126_122, w126_148, w126_150, w126_153, w126_154, w126_157, w126_158, w126_159, w126_161, w126_162, w126_163, w126_166, w126_169, w126_170, w126_171, w126_174, w126_177, Ko_n, Ko_v, vX_i, vX_r, vX_l, vX_j, reduceIte, Nat.reduceAdd]
              have hdv := doK_V hvK (Int.le_refl _) hw
              refine ih (n + 1) _ τ' _ _ (by omega) (sg_t hsg (fS_sg hf)) (tpl_st hdv.1 (tpl_fr (fun t o t0 t1 => hf t o (by omega)) htP)) hts ?_ hjd
              rw [show B + 6516 * ((n + 1 : Nat) : Int) = B + 6516 * (n : Int) + 6516 by omega]
              exact kV_act hvK (by omega) hdv.1 hdv.2
            · rw [if_neg hw] at hjd
              have := fin n (whyK K' (tyF σ t n)) K' τ (.long (i64 (tyF σ t n))) vmJ hyi.1 hyi.2 hsg htK hjd.symm
              simp (disch := (first | assumption | omega | exact Nat.le_of_ble_eq_true rfl | rfl)) only [w126_0, w126_1, w126_2, w126_5, w126_6, w126_9, w126_10, w126_11, w126_14, w126_15, w126_18, w126_19, w126_22, w126_23, w126_26, w126_27, w126_30, w126_33, w126_36, w126_37, w126_38, w126_39, w126_42, w126_43, w126_46, w126_47, w126_48, w126_51, w126_52, w126_55, w126_57, w126_58, w126_59, w126_60, w126_61, w126_62, w126_64, w126_65, w126_68, w126_69, w126_72, w126_75, w126_76, w126_79, w126_81, w126_84, w126_86, w126_88, w126_91, w126_94, w126_95, w126_98, w126_99, w126_102, w126_105, w126_106, w126_109, w126_111, w126_112, w126_115, w126_118, w126_121, w126_122, w126_148, w126_150, w126_153, w126_154, w126_157, w126_158, w126_159, w126_161, w126_162, w126_163, w126_166, w126_169, w126_170, w126_171, w126_174, w126_177, Ko_n, Ko_v, vX_i, vX_r, vX_l, vX_j, reduceIte, Nat.reduceAdd, hw]
              simp (disch := (first | assumption | omega | exact Nat.le_of_ble_eq_true rfl | rfl)) only [w126_0, w126_1, w126_2, w126_5, w126_6, w126_9, w126_10, w126_11, w126_14, w126_15, w126_18, w126_19, w126_22, w126_23, w126_26, w126_27, w126_30, w126_33, w126_36, w126_37, w126_38, w126_39, w126_42, w126_43, w126_46, w126_47, w126_48, w126_51, w126_52, w126_55, w126_57, w126_58, w126_59, w126_60, w126_61, w126_62, w126_64, w126_65, w126_68, w126_69, w126_72, w126_75, w126_76, w126_79, w126_81, w126_84, w126_86, w126_88, w126_91, w126_94, w126_95, w126_98, w126_99, w126_102, w126_105, w126_106, w126_109, w126_111, w126_112, w126_115, w126_118, w126_121, w126_122, w126_148, w126_150, w126_153, w126_154, w126_157, w126_158, w126_159, w126_161, w126_162, w126_163, w126_166, w126_169, w126_170, w126_171, w126_174, w126_177, Ko_n, Ko_v, vX_i, vX_r, vX_l, vX_j, reduceIte, Nat.reduceAdd] at this
              exact this
        simp (disch := (first | assumption | omega | exact Nat.le_of_ble_eq_true rfl | rfl)) only [w126_0, w126_1, w126_2, w126_5, w126_6, w126_9, w126_10, w126_11, w126_14, w126_15, w126_18, w126_19, w126_22, w126_23, w126_26, w126_27, w126_30, w126_33, w126_36, w126_37, w126_38, w126_39, w126_42, w126_43, w126_46, w126_47, w126_48, w126_51, w126_52, w126_55, w126_57, w126_58, w126_59, w126_60, w126_61, w126_62, w126_64, w126_65, w126_68, w126_69, w126_72, w126_75, w126_76, w126_79, w126_81, w126_84, w126_86, w126_88, w126_91, w126_94, w126_95, w126_98, w126_99, w126_102, w126_105, w126_106, w126_109, w126_111, w126_112, w126_115, w126_118, w126_121, w126_122, w126_148, w126_150, w126_153, w126_154, w126_157, w126_158, w126_159, w126_161, w126_162, w126_163, w126_166, w126_169, w126_170, w126_171, w126_174, w126_177, Ko_n, Ko_v, vX_i, vX_r, vX_l, vX_j, reduceIte, Nat.reduceAdd]
        have hsg : sg σ (scB σ 67 10) := (tlK_0 (σ := σ) (W := K 1) (H := K 2) (N := 0) (many := 0)).1
        have htK : tsc (scB σ 67 10) 67 K 7 := tsc_cp rfl hv.1.2.1.2 (fun _ _ _ => rfl) ht.2.1
        exact loop M 0 K _ _ _ (by omega) hsg (tpl_fr (fun t o t0 t1 => hsg t o (by omega)) ht.1) htK (kV_le (by omega) hv) rfl
      · have hq := hQ3 t0 t1 hs hd
        by_cases d2 : wh < 0
        · simp (disch := (first | assumption | omega | exact Nat.le_of_ble_eq_true rfl | rfl)) only [w126_0, w126_1, w126_2, w126_5, w126_6, w126_9, w126_10, w126_11, w126_14, w126_15, w126_18, w126_19, w126_22, w126_23, w126_26, w126_27, w126_30, w126_33, w126_36, w126_37, w126_38, w126_39, w126_42, w126_43, w126_46, w126_47, w126_48, w126_51, w126_52, w126_55, w126_57, w126_58, w126_59, w126_60, w126_61, w126_62, w126_64, w126_65, w126_68, w126_69, w126_72, w126_75, w126_76, w126_79, w126_81, w126_84, w126_86, w126_88, w126_91, w126_94, w126_95, w126_98, w126_99, w126_102, w126_105, w126_106, w126_109, w126_111, w126_112, w126_115, w126_118, w126_121, w126_122, w126_148, w126_150, w126_153, w126_154, w126_157, w126_158, w126_159, w126_161, w126_162, w126_163, w126_166, w126_169, w126_170, w126_171, w126_174, w126_177, Ko_n, Ko_v, vX_i, vX_r, vX_l, vX_j, reduceIte, Nat.reduceAdd, d2]
          rw [c169 (by omega) (Or.inl rfl), if_pos rfl, Ko_x rfl]
          exact hq
        · simp (disch := (first | assumption | omega | exact Nat.le_of_ble_eq_true rfl | rfl)) only [w126_0, w126_1, w126_2, w126_5, w126_6, w126_9, w126_10, w126_11, w126_14, w126_15, w126_18, w126_19, w126_22, w126_23, w126_26, w126_27, w126_30, w126_33, w126_36, w126_37, w126_38, w126_39, w126_42, w126_43, w126_46, w126_47, w126_48, w126_51, w126_52, w126_55, w126_57, w126_58, w126_59, w126_60, w126_61, w126_62, w126_64, w126_65, w126_68, w126_69, w126_72, w126_75, w126_76, w126_79, w126_81, w126_84, w126_86, w126_88, w126_91, w126_94, w126_95, w126_98, w126_99, w126_102, w126_105, w126_106, w126_109, w126_111, w126_112, w126_115, w126_118, w126_121, w126_122, w126_148, w126_150, w126_153, w126_154, w126_157, w126_158, w126_159, w126_161, w126_162, w126_163, w126_166, w126_169, w126_170, w126_171, w126_174, w126_177, Ko_n, Ko_v, vX_i, vX_r, vX_l, vX_j, reduceIte, Nat.reduceAdd, d2, show 3 < wh by omega]
          rw [c169 (by omega) (Or.inl rfl), if_pos rfl, Ko_x rfl]
          exact hq
  · rw [if_neg hv2, Ko_x rfl]
    exact hQ1 hv2
