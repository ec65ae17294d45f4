/-! ===== the class reads a law: sums, truths ===== -/
theorem c62 {e : Nat} {n D : Int} {f : Int → Int} {T : Tt} {F : Ps → Ps} (hf : tpOk f n) (D1 : D ≤ 6) (hL : rL n D F) (hC : cC T f n D 63 (e + 11) F) : cC T f n D 62 (e + 12) (fun s => lpG (fun s => isSg 43 s || isSg 45 s) (fun s => lay (if pT s = 43 then 10 else 11) (F (rdOn f n s))) 901 (F s)) := by
  intro d k Q σ s hR hD hs hk hd hQ
  have h0 := ob_rd
  have hp := ob_fp
  have hn9 := hf.2
  have loop : ∀ (m j : Nat) (τ : St) (s : Ps) (l3 : Value), Rc f n τ s → lD τ s → pO n s → kO s → pD s = D → (pB s = 0 → n - pG s ≤ m) → (pB s = 0 → (j : Int) + (n - pG s) ≤ 900) → (∀ ρ, Rc f n ρ (lpG (fun s => isSg 43 s || isSg 45 s) (fun s => lay (if pT s = 43 then 10 else 11) (F (rdOn f n s))) m s) → lD ρ (lpG (fun s => isSg 43 s || isSg 45 s) (fun s => lay (if pT s = 43 then 10 else 11) (F (rdOn f n s))) m s) → fL τ ρ → Q (.inl none) (E T ρ)) → (j : Int) ≤ 900 → Wp (d + e + 12) M_X5_readSum 7 [.ref 75, .int (i32 D), .int (i32 j), l3] [] (E T τ) Q := by
    intro m
    induction m with
    | zero =>
      intro j τ s l3 hR hD hs hk hd hm hj hQ h9
      have hz := sg_ed (c := 43) hs (by omega) hm
      have hy := sg_ed (c := 45) hs (by omega) hm
      rw [w62_7]
      by_cases e1 : (900 : Int) ≤ j
      · simp (disch := (first | assumption | omega | exact Nat.le_of_ble_eq_true rfl | rfl)) only [w62_0, w62_1, w62_2, w62_5, w62_6, w62_8, w62_11, w62_14, w62_15, w62_17, w62_20, w62_23, w62_24, w62_26, w62_29, w62_32, w62_33, w62_35, w62_38, w62_41, w62_44, w62_47, w62_50, w62_51, w62_52, w62_55, w62_56, w62_57, w62_60, w62_61, w62_64, w62_67, w62_68, w62_71, w62_74, w62_77, Ko_n, Ko_v, vX_i, vX_r, vX_l, vX_j, reduceIte, e1]
        exact hQ τ hR hD fL_r
      · simp (disch := (first | assumption | omega | exact Nat.le_of_ble_eq_true rfl | rfl)) only [w62_0, w62_1, w62_2, w62_5, w62_6, w62_8, w62_11, w62_14, w62_15, w62_17, w62_20, w62_23, w62_24, w62_26, w62_29, w62_32, w62_33, w62_35, w62_38, w62_41, w62_44, w62_47, w62_50, w62_51, w62_52, w62_55, w62_56, w62_57, w62_60, w62_61, w62_64, w62_67, w62_68, w62_71, w62_74, w62_77, Ko_n, Ko_v, vX_i, vX_r, vX_l, vX_j, reduceIte, e1]
        rw [c43 hR hs (by omega) (by omega), hz]
        simp (disch := (first | assumption | omega | exact Nat.le_of_ble_eq_true rfl | rfl)) only [w62_0, w62_1, w62_2, w62_5, w62_6, w62_8, w62_11, w62_14, w62_15, w62_17, w62_20, w62_23, w62_24, w62_26, w62_29, w62_32, w62_33, w62_35, w62_38, w62_41, w62_44, w62_47, w62_50, w62_51, w62_52, w62_55, w62_56, w62_57, w62_60, w62_61, w62_64, w62_67, w62_68, w62_71, w62_74, w62_77, Ko_n, Ko_v, vX_i, vX_r, vX_l, vX_j, reduceIte, Bool.false_eq_true, not_true]
        rw [c43 hR hs (by omega) (by omega), hy]
        simp (disch := (first | assumption | omega | exact Nat.le_of_ble_eq_true rfl | rfl)) only [w62_0, w62_1, w62_2, w62_5, w62_6, w62_8, w62_11, w62_14, w62_15, w62_17, w62_20, w62_23, w62_24, w62_26, w62_29, w62_32, w62_33, w62_35, w62_38, w62_41, w62_44, w62_47, w62_50, w62_51, w62_52, w62_55, w62_56, w62_57, w62_60, w62_61, w62_64, w62_67, w62_68, w62_71, w62_74, w62_77, Ko_n, Ko_v, vX_i, vX_r, vX_l, vX_j, reduceIte, Bool.false_eq_true]
        exact hQ τ hR hD fL_r
    | succ m ih =>
      intro j τ s l3 hR hD hs hk hd hm hj hQ h9
      rw [w62_7]
      by_cases e1 : (900 : Int) ≤ j
      · have hz := sg_ed (c := 43) hs (by omega) (fun w => by have := hj w; omega)
        have hy := sg_ed (c := 45) hs (by omega) (fun w => by have := hj w; omega)
        rw [lpG_0 (n := n) (by show (isSg 43 s || isSg 45 s) = false; rw [hz, hy]; rfl)] at hQ
        simp (disch := (first | assumption | omega | exact Nat.le_of_ble_eq_true rfl | rfl)) only [w62_0, w62_1, w62_2, w62_5, w62_6, w62_8, w62_11, w62_14, w62_15, w62_17, w62_20, w62_23, w62_24, w62_26, w62_29, w62_32, w62_33, w62_35, w62_38, w62_41, w62_44, w62_47, w62_50, w62_51, w62_52, w62_55, w62_56, w62_57, w62_60, w62_61, w62_64, w62_67, w62_68, w62_71, w62_74, w62_77, Ko_n, Ko_v, vX_i, vX_r, vX_l, vX_j, reduceIte, e1]
        exact hQ τ hR hD fL_r
      · have go : (isSg 43 s || isSg 45 s) = true → Wp (d + e + 12) M_X5_readSum 32 [.ref 75, .int (i32 D), .int (i32 j), l3] [] (E T τ) Q := by
          intro hor
          have hh : pB s = 0 ∧ (pT s = 43 ∨ pT s = 45) := by
            rw [Bool.or_eq_true] at hor
            rcases hor with w | w
            · have := isSg_h w; exact ⟨this.1, Or.inl this.2⟩
            · have := isSg_h w; exact ⟨this.1, Or.inr this.2⟩
          have he0 := (flt_b hh.1 (by omega)).1
          have hmm := hm hh.1
          have hjj := hj hh.1
          have hlt := hs.2.2.2.2.1 hh.1 (by omega)
          have on := lp_on (c := if pT s = 43 then 10 else 11) (m := m) hf hL hs hk hd D1 hh.1 (by omega) hmm
          have r := rdOn_O hf hs
          have rk := Lo_k (Lo_rd hf hs) hk
          have b := hL _ r.1 rk hd (fun z => by omega)
          rw [show lpG (fun s => isSg 43 s || isSg 45 s) (fun s => lay (if pT s = 43 then 10 else 11) (F (rdOn f n s))) (m + 1) s = lpG (fun s => isSg 43 s || isSg 45 s) (fun s => lay (if pT s = 43 then 10 else 11) (F (rdOn f n s))) m (lay (if pT s = 43 then 10 else 11) (F (rdOn f n s))) by simp only [lpG]; rw [if_pos hor]] at hQ
          have rest : ∀ c : Int, cdU (if pT s = 43 then 10 else 11) = c → Wp (d + e + 12) M_X5_readSum 51 [.ref 75, .int (i32 D), .int (i32 j), .int (i32 c)] [] (E T τ) Q := by
            intro c hc0
            simp (disch := (first | assumption | omega | exact Nat.le_of_ble_eq_true rfl | rfl)) only [w62_0, w62_1, w62_2, w62_5, w62_6, w62_8, w62_11, w62_14, w62_15, w62_17, w62_20, w62_23, w62_24, w62_26, w62_29, w62_32, w62_33, w62_35, w62_38, w62_41, w62_44, w62_47, w62_50, w62_51, w62_52, w62_55, w62_56, w62_57, w62_60, w62_61, w62_64, w62_67, w62_68, w62_71, w62_74, w62_77, Ko_n, Ko_v, vX_i, vX_r, vX_l, vX_j, reduceIte]
            refine c40 hR hf hs he0 fun ρ h1 h2 => ?_
            simp (disch := (first | assumption | omega | exact Nat.le_of_ble_eq_true rfl | rfl)) only [w62_0, w62_1, w62_2, w62_5, w62_6, w62_8, w62_11, w62_14, w62_15, w62_17, w62_20, w62_23, w62_24, w62_26, w62_29, w62_32, w62_33, w62_35, w62_38, w62_41, w62_44, w62_47, w62_50, w62_51, w62_52, w62_55, w62_56, w62_57, w62_60, w62_61, w62_64, w62_67, w62_68, w62_71, w62_74, w62_77, Ko_n, Ko_v, vX_i, vX_r, vX_l, vX_j, reduceIte]
            have hlD : lD ρ (rdOn f n s) := lD_R hD h2 (fun z => flt_rd z (by omega)) rfl
            have hc := hC d 1 (Ko (d + e + 11) M_X5_readSum 60 57 [.ref 75, .int (i32 D), .int (i32 j), .int (i32 c)] [] Q) ρ _ h1 hlD r.1 rk hd
            rw [show d + (e + 11) = d + e + 11 by omega] at hc
            refine hc fun ω h3 h4 h5 => ?_
            simp (disch := (first | assumption | omega | exact Nat.le_of_ble_eq_true rfl | rfl)) only [w62_0, w62_1, w62_2, w62_5, w62_6, w62_8, w62_11, w62_14, w62_15, w62_17, w62_20, w62_23, w62_24, w62_26, w62_29, w62_32, w62_33, w62_35, w62_38, w62_41, w62_44, w62_47, w62_50, w62_51, w62_52, w62_55, w62_56, w62_57, w62_60, w62_61, w62_64, w62_67, w62_68, w62_71, w62_74, w62_77, Ko_n, Ko_v, vX_i, vX_r, vX_l, vX_j, reduceIte, Nat.reduceAdd]
            refine cput (c' := if pT s = 43 then 10 else 11) h3 h4 (k9 (Lo_k b rk) b.1 hn9.2 (fun z => Or.inl ?_)) (fun _ => hc0) fun χ h6 h7 h8 => ?_
            · have q := b.2.2.2.2 z
              have q2 := hk.2 hh.1
              have q3 : pK (rdOn f n s) 5 = pK s 5 := rfl
              omega
            simp (disch := (first | assumption | omega | exact Nat.le_of_ble_eq_true rfl | rfl)) only [w62_0, w62_1, w62_2, w62_5, w62_6, w62_8, w62_11, w62_14, w62_15, w62_17, w62_20, w62_23, w62_24, w62_26, w62_29, w62_32, w62_33, w62_35, w62_38, w62_41, w62_44, w62_47, w62_50, w62_51, w62_52, w62_55, w62_56, w62_57, w62_60, w62_61, w62_64, w62_67, w62_68, w62_71, w62_74, w62_77, Ko_n, Ko_v, vX_i, vX_r, vX_l, vX_j, reduceIte]
            refine ih (j + 1) χ _ _ h6 h7 on.1.1 (Lo_k on.1 hk) (by rw [on.1.2.1]; omega) on.2 (fun z => ?_) (fun υ g1 g2 g3 => hQ υ g1 g2 (fL_t (fR_L h2) (fL_t h5 (fL_t h8 g3)))) (by omega)
            have q := b.2.2.2.2 (by rw [flt_lay.2.2.2.2.1] at z; exact z)
            rw [flt_lay.2.2.2.1]
            omega
          simp (disch := (first | assumption | omega | exact Nat.le_of_ble_eq_true rfl | rfl)) only [w62_32, w62_33, w62_35, w62_38, w62_41, w62_44, w62_47, w62_50, Ko_n, Ko_v, vX_i, vX_r, vX_l, vX_j, reduceIte]
          rw [c43 hR hs (by omega) (by omega)]
          rcases hh.2 with ht | ht
          · rw [if_pos ht] at rest
            rw [if_pos (show isSg 43 s = true from decide_eq_true ⟨hh.1, ht⟩)]
            simp (disch := (first | assumption | omega | exact Nat.le_of_ble_eq_true rfl | rfl)) only [w62_32, w62_33, w62_35, w62_38, w62_41, w62_44, w62_47, w62_50, Ko_n, Ko_v, vX_i, vX_r, vX_l, vX_j, reduceIte, Int.reduceEq]
            exact rest _ rfl
          · rw [if_neg (by omega)] at rest
            rw [if_neg (show ¬ isSg 43 s = true from fun w => by have := isSg_h w; omega)]
            simp (disch := (first | assumption | omega | exact Nat.le_of_ble_eq_true rfl | rfl)) only [w62_32, w62_33, w62_35, w62_38, w62_41, w62_44, w62_47, w62_50, Ko_n, Ko_v, vX_i, vX_r, vX_l, vX_j, reduceIte]
            exact rest _ rfl
        simp (disch := (first | assumption | omega | exact Nat.le_of_ble_eq_true rfl | rfl)) only [w62_8, w62_11, w62_14, w62_15, w62_17, w62_20, w62_23, w62_24, w62_26, w62_29, Ko_n, Ko_v, vX_i, vX_r, vX_l, vX_j, reduceIte, e1]
        rw [c43 hR hs (by omega) (by omega)]
        cases hz : isSg 43 s with
        | true =>
          simp (disch := (first | assumption | omega | exact Nat.le_of_ble_eq_true rfl | rfl)) only [w62_8, w62_11, w62_14, w62_15, w62_17, w62_20, w62_23, w62_24, w62_26, w62_29, Ko_n, Ko_v, vX_i, vX_r, vX_l, vX_j, reduceIte, Int.reduceEq, not_false_eq_true]
          exact go (by rw [hz]; rfl)
        | false =>
          simp (disch := (first | assumption | omega | exact Nat.le_of_ble_eq_true rfl | rfl)) only [w62_8, w62_11, w62_14, w62_15, w62_17, w62_20, w62_23, w62_24, w62_26, w62_29, Ko_n, Ko_v, vX_i, vX_r, vX_l, vX_j, reduceIte, Bool.false_eq_true, not_true]
          rw [c43 hR hs (by omega) (by omega)]
          cases hy : isSg 45 s with
          | true =>
            simp (disch := (first | assumption | omega | exact Nat.le_of_ble_eq_true rfl | rfl)) only [w62_8, w62_11, w62_14, w62_15, w62_17, w62_20, w62_23, w62_24, w62_26, w62_29, Ko_n, Ko_v, vX_i, vX_r, vX_l, vX_j, reduceIte, Int.reduceEq]
            exact go (by rw [hy, Bool.or_true])
          | false =>
            rw [lpG_0 (n := n) (by show (isSg 43 s || isSg 45 s) = false; rw [hz, hy]; rfl)] at hQ
            simp (disch := (first | assumption | omega | exact Nat.le_of_ble_eq_true rfl | rfl)) only [w62_0, w62_1, w62_2, w62_5, w62_6, w62_8, w62_11, w62_14, w62_15, w62_17, w62_20, w62_23, w62_24, w62_26, w62_29, w62_32, w62_33, w62_35, w62_38, w62_41, w62_44, w62_47, w62_50, w62_51, w62_52, w62_55, w62_56, w62_57, w62_60, w62_61, w62_64, w62_67, w62_68, w62_71, w62_74, w62_77, Ko_n, Ko_v, vX_i, vX_r, vX_l, vX_j, reduceIte, Bool.false_eq_true]
            exact hQ τ hR hD fL_r
  have b := hL s hs hk hd (fun z => by omega)
  have b3 := b.1.2.2.1
  rw [show d + (e + 12) = d + e + 12 by omega, n62 _ _ _ _ _ _ _ h0]
  simp (disch := (first | assumption | omega | exact Nat.le_of_ble_eq_true rfl | rfl)) only [w62_0, w62_1, w62_2, w62_5, w62_6, w62_8, w62_11, w62_14, w62_15, w62_17, w62_20, w62_23, w62_24, w62_26, w62_29, w62_32, w62_33, w62_35, w62_38, w62_41, w62_44, w62_47, w62_50, w62_51, w62_52, w62_55, w62_56, w62_57, w62_60, w62_61, w62_64, w62_67, w62_68, w62_71, w62_74, w62_77, Ko_n, Ko_v, vX_i, vX_r, vX_l, vX_j, reduceIte]
  have hc := hC d 1 (Ko (d + e + 11) M_X5_readSum 5 2 [.ref 75, .int (i32 D), vmJ, vmJ] [] Q) σ s hR hD hs hk hd
  rw [show d + (e + 11) = d + e + 11 by omega] at hc
  refine hc fun ω h3 h4 h5 => ?_
  simp (disch := (first | assumption | omega | exact Nat.le_of_ble_eq_true rfl | rfl)) only [w62_0, w62_1, w62_2, w62_5, w62_6, w62_8, w62_11, w62_14, w62_15, w62_17, w62_20, w62_23, w62_24, w62_26, w62_29, w62_32, w62_33, w62_35, w62_38, w62_41, w62_44, w62_47, w62_50, w62_51, w62_52, w62_55, w62_56, w62_57, w62_60, w62_61, w62_64, w62_67, w62_68, w62_71, w62_74, w62_77, Ko_n, Ko_v, vX_i, vX_r, vX_l, vX_j, reduceIte]
  exact loop 901 0 ω _ _ h3 h4 b.1 (Lo_k b hk) (by rw [b.2.1]; omega) (fun _ => by omega) (fun _ => by omega) (fun υ g1 g2 g3 => hQ υ g1 g2 (fL_t h5 g3)) (by omega)
theorem c58 {e : Nat} {n D : Int} {f : Int → Int} {T : Tt} {F : Ps → Ps} (hf : tpOk f n) (D1 : D ≤ 6) (hL : rL n D F) (hC : cC T f n D 59 (e + 13) F) : cC T f n D 58 (e + 14) (fun s => lpG (isWd f 19) (fun s => lay 16 (F (rdOn f n s))) 901 (F s)) := by
  intro d k Q σ s hR hD hs hk hd hQ
  have h0 := ob_rd
  have hp := ob_fp
  have hn9 := hf.2
  have loop : ∀ (m j : Nat) (τ : St) (s : Ps), Rc f n τ s → lD τ s → pO n s → kO s → pD s = D → (pB s = 0 → n - pG s ≤ m) → (pB s = 0 → (j : Int) + (n - pG s) ≤ 900) → (∀ ρ, Rc f n ρ (lpG (isWd f 19) (fun s => lay 16 (F (rdOn f n s))) m s) → lD ρ (lpG (isWd f 19) (fun s => lay 16 (F (rdOn f n s))) m s) → fL τ ρ → Q (.inl none) (E T ρ)) → (j : Int) ≤ 900 → Wp (d + e + 14) M_X5_readBoth 7 [.ref 75, .int (i32 D), .int (i32 j)] [] (E T τ) Q := by
    intro m
    induction m with
    | zero =>
      intro j τ s hR hD hs hk hd hm hj hQ h9
      have hz := wd_ed (f := f) (i := 19) hs hm
      rw [w58_7]
      by_cases e1 : (900 : Int) ≤ j
      · simp (disch := (first | assumption | omega | exact Nat.le_of_ble_eq_true rfl | rfl)) only [w58_0, w58_1, w58_2, w58_5, w58_6, w58_8, w58_11, w58_14, w58_15, w58_17, w58_20, w58_23, w58_24, w58_25, w58_28, w58_29, w58_32, w58_35, w58_38, w58_41, w58_44, w58_47, Ko_n, Ko_v, vX_i, vX_r, vX_l, vX_j, reduceIte, e1]
        exact hQ τ hR hD fL_r
      · simp (disch := (first | assumption | omega | exact Nat.le_of_ble_eq_true rfl | rfl)) only [w58_0, w58_1, w58_2, w58_5, w58_6, w58_8, w58_11, w58_14, w58_15, w58_17, w58_20, w58_23, w58_24, w58_25, w58_28, w58_29, w58_32, w58_35, w58_38, w58_41, w58_44, w58_47, Ko_n, Ko_v, vX_i, vX_r, vX_l, vX_j, reduceIte, e1]
        refine c44 (i := 19) rfl hR hf hs (by omega) (fun w => by rw [hz] at w; cases w) (fun _ => ?_)
        simp (disch := (first | assumption | omega | exact Nat.le_of_ble_eq_true rfl | rfl)) only [w58_0, w58_1, w58_2, w58_5, w58_6, w58_8, w58_11, w58_14, w58_15, w58_17, w58_20, w58_23, w58_24, w58_25, w58_28, w58_29, w58_32, w58_35, w58_38, w58_41, w58_44, w58_47, Ko_n, Ko_v, vX_i, vX_r, vX_l, vX_j, reduceIte]
        exact hQ τ hR hD fL_r
    | succ m ih =>
      intro j τ s hR hD hs hk hd hm hj hQ h9
      rw [w58_7]
      by_cases e1 : (900 : Int) ≤ j
      · have hz := wd_ed (f := f) (i := 19) hs (fun w => by have := hj w; omega)
        rw [lpG_0 (n := n) hz] at hQ
        simp (disch := (first | assumption | omega | exact Nat.le_of_ble_eq_true rfl | rfl)) only [w58_0, w58_1, w58_2, w58_5, w58_6, w58_8, w58_11, w58_14, w58_15, w58_17, w58_20, w58_23, w58_24, w58_25, w58_28, w58_29, w58_32, w58_35, w58_38, w58_41, w58_44, w58_47, Ko_n, Ko_v, vX_i, vX_r, vX_l, vX_j, reduceIte, e1]
        exact hQ τ hR hD fL_r
      · simp (disch := (first | assumption | omega | exact Nat.le_of_ble_eq_true rfl | rfl)) only [w58_0, w58_1, w58_2, w58_5, w58_6, w58_8, w58_11, w58_14, w58_15, w58_17, w58_20, w58_23, w58_24, w58_25, w58_28, w58_29, w58_32, w58_35, w58_38, w58_41, w58_44, w58_47, Ko_n, Ko_v, vX_i, vX_r, vX_l, vX_j, reduceIte, e1]
        refine c44 (i := 19) rfl hR hf hs (by omega) (fun hz ρ h1 h2 => ?_) (fun hz => ?_)
        · have hh := isWd_h hz
          have hmm := hm hh.1
          have hjj := hj hh.1
          have hlt := hs.2.2.2.2.1 hh.1 (by omega)
          have on := lp_on (c := 16) (m := m) hf hL hs hk hd D1 hh.1 (by omega) hmm
          have r := rdOn_O hf hs
          have rk := Lo_k (Lo_rd hf hs) hk
          have b := hL _ r.1 rk hd (fun z => by omega)
          rw [show lpG (isWd f 19) (fun s => lay 16 (F (rdOn f n s))) (m + 1) s = lpG (isWd f 19) (fun s => lay 16 (F (rdOn f n s))) m (lay 16 (F (rdOn f n s))) by simp only [lpG]; rw [if_pos hz]] at hQ
          simp (disch := (first | assumption | omega | exact Nat.le_of_ble_eq_true rfl | rfl)) only [w58_0, w58_1, w58_2, w58_5, w58_6, w58_8, w58_11, w58_14, w58_15, w58_17, w58_20, w58_23, w58_24, w58_25, w58_28, w58_29, w58_32, w58_35, w58_38, w58_41, w58_44, w58_47, Ko_n, Ko_v, vX_i, vX_r, vX_l, vX_j, reduceIte, Int.reduceEq]
          have hlD : lD ρ (rdOn f n s) := lD_R hD h2 (fun z => flt_rd z (by omega)) rfl
          have hc := hC d 1 (Ko (d + e + 13) M_X5_readBoth 28 25 [.ref 75, .int (i32 D), .int (i32 j)] [] Q) ρ _ h1 hlD r.1 rk hd
          rw [show d + (e + 13) = d + e + 13 by omega] at hc
          refine hc fun ω h3 h4 h5 => ?_
          simp (disch := (first | assumption | omega | exact Nat.le_of_ble_eq_true rfl | rfl)) only [w58_0, w58_1, w58_2, w58_5, w58_6, w58_8, w58_11, w58_14, w58_15, w58_17, w58_20, w58_23, w58_24, w58_25, w58_28, w58_29, w58_32, w58_35, w58_38, w58_41, w58_44, w58_47, Ko_n, Ko_v, vX_i, vX_r, vX_l, vX_j, reduceIte, Nat.reduceAdd]
          refine cput (c' := 16) h3 h4 (k9 (Lo_k b rk) b.1 hn9.2 (fun z => Or.inl ?_)) (fun _ => rfl) fun χ h6 h7 h8 => ?_
          · have q := b.2.2.2.2 z
            have q2 := hk.2 hh.1
            have q3 : pK (rdOn f n s) 5 = pK s 5 := rfl
            omega
          simp (disch := (first | assumption | omega | exact Nat.le_of_ble_eq_true rfl | rfl)) only [w58_0, w58_1, w58_2, w58_5, w58_6, w58_8, w58_11, w58_14, w58_15, w58_17, w58_20, w58_23, w58_24, w58_25, w58_28, w58_29, w58_32, w58_35, w58_38, w58_41, w58_44, w58_47, Ko_n, Ko_v, vX_i, vX_r, vX_l, vX_j, reduceIte]
          refine ih (j + 1) χ _ h6 h7 on.1.1 (Lo_k on.1 hk) (by rw [on.1.2.1]; omega) on.2 (fun z => ?_) (fun υ g1 g2 g3 => hQ υ g1 g2 (fL_t (fR_L h2) (fL_t h5 (fL_t h8 g3)))) (by omega)
          have q := b.2.2.2.2 (by rw [flt_lay.2.2.2.2.1] at z; exact z)
          rw [flt_lay.2.2.2.1]
          omega
        · rw [lpG_0 (n := n) hz] at hQ
          simp (disch := (first | assumption | omega | exact Nat.le_of_ble_eq_true rfl | rfl)) only [w58_0, w58_1, w58_2, w58_5, w58_6, w58_8, w58_11, w58_14, w58_15, w58_17, w58_20, w58_23, w58_24, w58_25, w58_28, w58_29, w58_32, w58_35, w58_38, w58_41, w58_44, w58_47, Ko_n, Ko_v, vX_i, vX_r, vX_l, vX_j, reduceIte]
          exact hQ τ hR hD fL_r
  have b := hL s hs hk hd (fun z => by omega)
  have b3 := b.1.2.2.1
  rw [show d + (e + 14) = d + e + 14 by omega, n58 _ _ _ _ _ _ _ h0]
  simp (disch := (first | assumption | omega | exact Nat.le_of_ble_eq_true rfl | rfl)) only [w58_0, w58_1, w58_2, w58_5, w58_6, w58_8, w58_11, w58_14, w58_15, w58_17, w58_20, w58_23, w58_24, w58_25, w58_28, w58_29, w58_32, w58_35, w58_38, w58_41, w58_44, w58_47, Ko_n, Ko_v, vX_i, vX_r, vX_l, vX_j, reduceIte]
  have hc := hC d 1 (Ko (d + e + 13) M_X5_readBoth 5 2 [.ref 75, .int (i32 D), vmJ] [] Q) σ s hR hD hs hk hd
  rw [show d + (e + 13) = d + e + 13 by omega] at hc
  refine hc fun ω h3 h4 h5 => ?_
  simp (disch := (first | assumption | omega | exact Nat.le_of_ble_eq_true rfl | rfl)) only [w58_0, w58_1, w58_2, w58_5, w58_6, w58_8, w58_11, w58_14, w58_15, w58_17, w58_20, w58_23, w58_24, w58_25, w58_28, w58_29, w58_32, w58_35, w58_38, w58_41, w58_44, w58_47, Ko_n, Ko_v, vX_i, vX_r, vX_l, vX_j, reduceIte]
  exact loop 901 0 ω _ h3 h4 b.1 (Lo_k b hk) (by rw [b.2.1]; omega) (fun _ => by omega) (fun _ => by omega) (fun υ g1 g2 g3 => hQ υ g1 g2 (fL_t h5 g3)) (by omega)
theorem c57 {e : Nat} {n D : Int} {f : Int → Int} {T : Tt} {F : Ps → Ps} (hf : tpOk f n) (D1 : D ≤ 6) (hL : rL n D F) (hC : cC T f n D 58 (e + 14) F) : cC T f n D 57 (e + 15) (fun s => lpG (isWd f 20) (fun s => lay 17 (F (rdOn f n s))) 901 (F s)) := by
  intro d k Q σ s hR hD hs hk hd hQ
  have h0 := ob_rd
  have hp := ob_fp
  have hn9 := hf.2
  have loop : ∀ (m j : Nat) (τ : St) (s : Ps), Rc f n τ s → lD τ s → pO n s → kO s → pD s = D → (pB s = 0 → n - pG s ≤ m) → (pB s = 0 → (j : Int) + (n - pG s) ≤ 900) → (∀ ρ, Rc f n ρ (lpG (isWd f 20) (fun s => lay 17 (F (rdOn f n s))) m s) → lD ρ (lpG (isWd f 20) (fun s => lay 17 (F (rdOn f n s))) m s) → fL τ ρ → Q (.inl none) (E T ρ)) → (j : Int) ≤ 900 → Wp (d + e + 15) M_X5_readTruth 7 [.ref 75, .int (i32 D), .int (i32 j)] [] (E T τ) Q := by
    intro m
    induction m with
    | zero =>
      intro j τ s hR hD hs hk hd hm hj hQ h9
      have hz := wd_ed (f := f) (i := 20) hs hm
      rw [w57_7]
      by_cases e1 : (900 : Int) ≤ j
      · simp (disch := (first | assumption | omega | exact Nat.le_of_ble_eq_true rfl | rfl)) only [w57_0, w57_1, w57_2, w57_5, w57_6, w57_8, w57_11, w57_14, w57_15, w57_17, w57_20, w57_23, w57_24, w57_25, w57_28, w57_29, w57_32, w57_35, w57_38, w57_41, w57_44, w57_47, Ko_n, Ko_v, vX_i, vX_r, vX_l, vX_j, reduceIte, e1]
        exact hQ τ hR hD fL_r
      · simp (disch := (first | assumption | omega | exact Nat.le_of_ble_eq_true rfl | rfl)) only [w57_0, w57_1, w57_2, w57_5, w57_6, w57_8, w57_11, w57_14, w57_15, w57_17, w57_20, w57_23, w57_24, w57_25, w57_28, w57_29, w57_32, w57_35, w57_38, w57_41, w57_44, w57_47, Ko_n, Ko_v, vX_i, vX_r, vX_l, vX_j, reduceIte, e1]
        refine c44 (i := 20) rfl hR hf hs (by omega) (fun w => by rw [hz] at w; cases w) (fun _ => ?_)
        simp (disch := (first | assumption | omega | exact Nat.le_of_ble_eq_true rfl | rfl)) only [w57_0, w57_1, w57_2, w57_5, w57_6, w57_8, w57_11, w57_14, w57_15, w57_17, w57_20, w57_23, w57_24, w57_25, w57_28, w57_29, w57_32, w57_35, w57_38, w57_41, w57_44, w57_47, Ko_n, Ko_v, vX_i, vX_r, vX_l, vX_j, reduceIte]
        exact hQ τ hR hD fL_r
    | succ m ih =>
      intro j τ s hR hD hs hk hd hm hj hQ h9
      rw [w57_7]
      by_cases e1 : (900 : Int) ≤ j
      · have hz := wd_ed (f := f) (i := 20) hs (fun w => by have := hj w; omega)
        rw [lpG_0 (n := n) hz] at hQ
        simp (disch := (first | assumption | omega | exact Nat.le_of_ble_eq_true rfl | rfl)) only [w57_0, w57_1, w57_2, w57_5, w57_6, w57_8, w57_11, w57_14, w57_15, w57_17, w57_20, w57_23, w57_24, w57_25, w57_28, w57_29, w57_32, w57_35, w57_38, w57_41, w57_44, w57_47, Ko_n, Ko_v, vX_i, vX_r, vX_l, vX_j, reduceIte, e1]
        exact hQ τ hR hD fL_r
      · simp (disch := (first | assumption | omega | exact Nat.le_of_ble_eq_true rfl | rfl)) only [w57_0, w57_1, w57_2, w57_5, w57_6, w57_8, w57_11, w57_14, w57_15, w57_17, w57_20, w57_23, w57_24, w57_25, w57_28, w57_29, w57_32, w57_35, w57_38, w57_41, w57_44, w57_47, Ko_n, Ko_v, vX_i, vX_r, vX_l, vX_j, reduceIte, e1]
        refine c44 (i := 20) rfl hR hf hs (by omega) (fun hz ρ h1 h2 => ?_) (fun hz => ?_)
        · have hh := isWd_h hz
          have hmm := hm hh.1
          have hjj := hj hh.1
          have hlt := hs.2.2.2.2.1 hh.1 (by omega)
          have on := lp_on (c := 17) (m := m) hf hL hs hk hd D1 hh.1 (by omega) hmm
          have r := rdOn_O hf hs
          have rk := Lo_k (Lo_rd hf hs) hk
          have b := hL _ r.1 rk hd (fun z => by omega)
          rw [show lpG (isWd f 20) (fun s => lay 17 (F (rdOn f n s))) (m + 1) s = lpG (isWd f 20) (fun s => lay 17 (F (rdOn f n s))) m (lay 17 (F (rdOn f n s))) by simp only [lpG]; rw [if_pos hz]] at hQ
          simp (disch := (first | assumption | omega | exact Nat.le_of_ble_eq_true rfl | rfl)) only [w57_0, w57_1, w57_2, w57_5, w57_6, w57_8, w57_11, w57_14, w57_15, w57_17, w57_20, w57_23, w57_24, w57_25, w57_28, w57_29, w57_32, w57_35, w57_38, w57_41, w57_44, w57_47, Ko_n, Ko_v, vX_i, vX_r, vX_l, vX_j, reduceIte, Int.reduceEq]
          have hlD : lD ρ (rdOn f n s) := lD_R hD h2 (fun z => flt_rd z (by omega)) rfl
          have hc := hC d 1 (Ko (d + e + 14) M_X5_readTruth 28 25 [.ref 75, .int (i32 D), .int (i32 j)] [] Q) ρ _ h1 hlD r.1 rk hd
          rw [show d + (e + 14) = d + e + 14 by omega] at hc
          refine hc fun ω h3 h4 h5 => ?_
          simp (disch := (first | assumption | omega | exact Nat.le_of_ble_eq_true rfl | rfl)) only [w57_0, w57_1, w57_2, w57_5, w57_6, w57_8, w57_11, w57_14, w57_15, w57_17, w57_20, w57_23, w57_24, w57_25, w57_28, w57_29, w57_32, w57_35, w57_38, w57_41, w57_44, w57_47, Ko_n, Ko_v, vX_i, vX_r, vX_l, vX_j, reduceIte, Nat.reduceAdd]
          refine cput (c' := 17) h3 h4 (k9 (Lo_k b rk) b.1 hn9.2 (fun z => Or.inl ?_)) (fun _ => rfl) fun χ h6 h7 h8 => ?_
          · have q := b.2.2.2.2 z
            have q2 := hk.2 hh.1
            have q3 : pK (rdOn f n s) 5 = pK s 5 := rfl
            omega
          simp (disch := (first | assumption | omega | exact Nat.le_of_ble_eq_true rfl | rfl)) only [w57_0, w57_1, w57_2, w57_5, w57_6, w57_8, w57_11, w57_14, w57_15, w57_17, w57_20, w57_23, w57_24, w57_25, w57_28, w57_29, w57_32, w57_35, w57_38, w57_41, w57_44, w57_47, Ko_n, Ko_v, vX_i, vX_r, vX_l, vX_j, reduceIte]
          refine ih (j + 1) χ _ h6 h7 on.1.1 (Lo_k on.1 hk) (by rw [on.1.2.1]; omega) on.2 (fun z => ?_) (fun υ g1 g2 g3 => hQ υ g1 g2 (fL_t (fR_L h2) (fL_t h5 (fL_t h8 g3)))) (by omega)
          have q := b.2.2.2.2 (by rw [flt_lay.2.2.2.2.1] at z; exact z)
          rw [flt_lay.2.2.2.1]
          omega
        · rw [lpG_0 (n := n) hz] at hQ
          simp (disch := (first | assumption | omega | exact Nat.le_of_ble_eq_true rfl | rfl)) only [w57_0, w57_1, w57_2, w57_5, w57_6, w57_8, w57_11, w57_14, w57_15, w57_17, w57_20, w57_23, w57_24, w57_25, w57_28, w57_29, w57_32, w57_35, w57_38, w57_41, w57_44, w57_47, Ko_n, Ko_v, vX_i, vX_r, vX_l, vX_j, reduceIte]
          exact hQ τ hR hD fL_r
  have b := hL s hs hk hd (fun z => by omega)
  have b3 := b.1.2.2.1
  rw [show d + (e + 15) = d + e + 15 by omega, n57 _ _ _ _ _ _ _ h0]
  simp (disch := (first | assumption | omega | exact Nat.le_of_ble_eq_true rfl | rfl)) only [w57_0, w57_1, w57_2, w57_5, w57_6, w57_8, w57_11, w57_14, w57_15, w57_17, w57_20, w57_23, w57_24, w57_25, w57_28, w57_29, w57_32, w57_35, w57_38, w57_41, w57_44, w57_47, Ko_n, Ko_v, vX_i, vX_r, vX_l, vX_j, reduceIte]
  have hc := hC d 1 (Ko (d + e + 14) M_X5_readTruth 5 2 [.ref 75, .int (i32 D), vmJ] [] Q) σ s hR hD hs hk hd
  rw [show d + (e + 14) = d + e + 14 by omega] at hc
  refine hc fun ω h3 h4 h5 => ?_
  simp (disch := (first | assumption | omega | exact Nat.le_of_ble_eq_true rfl | rfl)) only [w57_0, w57_1, w57_2, w57_5, w57_6, w57_8, w57_11, w57_14, w57_15, w57_17, w57_20, w57_23, w57_24, w57_25, w57_28, w57_29, w57_32, w57_35, w57_38, w57_41, w57_44, w57_47, Ko_n, Ko_v, vX_i, vX_r, vX_l, vX_j, reduceIte]
  exact loop 901 0 ω _ h3 h4 b.1 (Lo_k b hk) (by rw [b.2.1]; omega) (fun _ => by omega) (fun _ => by omega) (fun υ g1 g2 g3 => hQ υ g1 g2 (fL_t h5 g3)) (by omega)
theorem c59 {e : Nat} {n D : Int} {f : Int → Int} {T : Tt} {un tr sm : Ps → Ps} (hf : tpOk f n) (D1 : D ≤ 6) (hLU : rL n (D + 1) un) (hLT : rL n (D + 1) tr) (hLS : rL n D sm) (hFU : Fo n (D + 1) un) (hFT : Fo n (D + 1) tr) (hFS : Fo n D sm) (hid : ∀ s, pB s ≠ 0 → sm s = s) (hU : D < 6 → cC T f n (D + 1) 59 (e + 10) un) (hT : D < 6 → cC T f n (D + 1) 57 (e + 12) tr) (hS : cC T f n D 62 (e + 12) sm) : cC T f n D 59 (e + 13) (pUnt f n un tr sm) := by
  intro d k Q σ s hR hD hs hk hd hQ
  have h0 := ob_rd
  have hp := ob_fp
  have hn9 := hf.2
  have hfi := flt_in hs
  subst hd
  rw [show d + (e + 13) = d + e + 13 by omega, n59 _ _ _ _ _ _ _ h0]
  simp (disch := (first | assumption | omega | exact Nat.le_of_ble_eq_true rfl | rfl)) only [w59_0, w59_1, w59_3, w59_6, w59_9, w59_10, w59_11, w59_14, w59_17, w59_18, w59_19, w59_20, w59_21, w59_24, w59_25, w59_28, w59_31, w59_34, w59_37, w59_40, w59_41, w59_43, w59_46, w59_49, w59_50, w59_51, w59_54, w59_57, w59_58, w59_59, w59_60, w59_61, w59_64, w59_65, w59_67, w59_70, w59_73, w59_74, w59_75, w59_78, w59_79, w59_82, w59_83, w59_84, w59_85, w59_88, w59_89, w59_92, w59_95, w59_96, w59_99, Ko_n, Ko_v, vX_i, vX_r, vX_l, vX_j, reduceIte]
  rw [c42 (i := 12) rfl hR hf hs (by omega)]
  cases hw : isWd f 12 s with
  | true =>
    have hh := isWd_h hw
    have hb := hh.1
    have he := (flt_b hb (by omega)).1
    unfold pUnt at hQ
    rw [if_pos hb, if_pos hw] at hQ
    have g := Lo_gi hf hs D1
    have gk := Lo_k g.1 hk
    have g2 := hLU _ g.1.1 gk (by rw [g.1.2.1]) (fun z => g.2 (by omega))
    simp (disch := (first | assumption | omega | exact Nat.le_of_ble_eq_true rfl | rfl)) only [w59_0, w59_1, w59_3, w59_6, w59_9, w59_10, w59_11, w59_14, w59_17, w59_18, w59_19, w59_20, w59_21, w59_24, w59_25, w59_28, w59_31, w59_34, w59_37, w59_40, w59_41, w59_43, w59_46, w59_49, w59_50, w59_51, w59_54, w59_57, w59_58, w59_59, w59_60, w59_61, w59_64, w59_65, w59_67, w59_70, w59_73, w59_74, w59_75, w59_78, w59_79, w59_82, w59_83, w59_84, w59_85, w59_88, w59_89, w59_92, w59_95, w59_96, w59_99, Ko_n, Ko_v, vX_i, vX_r, vX_l, vX_j, reduceIte, Int.reduceEq]
    refine c60 hR hf hs he D1 fun τ h1 h2 => ?_
    by_cases e2 : flt (gin f n s) = 0
    · rw [if_pos e2]
      have h6 : pD s < 6 := by
        rcases Int.lt_or_eq_of_le D1 with h | h
        · exact h
        · exact absurd (gin_f e2 h hs) (fun z => z)
      have hgn : gin f n s = stD (pD s + 1) (rdOn f n s) := by
        unfold gin rdO
        rw [if_neg (show ¬ pD s = 6 by omega)]
        exact if_pos (show pB (stD (pD s + 1) s) = 0 from hb)
      simp (disch := (first | assumption | omega | exact Nat.le_of_ble_eq_true rfl | rfl)) only [w59_0, w59_1, w59_3, w59_6, w59_9, w59_10, w59_11, w59_14, w59_17, w59_18, w59_19, w59_20, w59_21, w59_24, w59_25, w59_28, w59_31, w59_34, w59_37, w59_40, w59_41, w59_43, w59_46, w59_49, w59_50, w59_51, w59_54, w59_57, w59_58, w59_59, w59_60, w59_61, w59_64, w59_65, w59_67, w59_70, w59_73, w59_74, w59_75, w59_78, w59_79, w59_82, w59_83, w59_84, w59_85, w59_88, w59_89, w59_92, w59_95, w59_96, w59_99, Ko_n, Ko_v, vX_i, vX_r, vX_l, vX_j, reduceIte, Int.reduceEq]
      have hlD : lD τ (gin f n s) := lD_R hD h2 (fun _ => he) (by rw [hgn]; rfl)
      have hc := hU h6 (d + 2) 1 (Ko (d + e + 12) M_X5_readUnit 24 21 [.ref 75, .int (i32 (pD s)), vmJ] [] Q) τ _ h1 hlD g.1.1 gk (by rw [g.1.2.1])
      rw [show d + 2 + (e + 10) = d + e + 12 by omega] at hc
      refine hc fun ρ h3 h4 h5 => ?_
      simp (disch := (first | assumption | omega | exact Nat.le_of_ble_eq_true rfl | rfl)) only [w59_0, w59_1, w59_3, w59_6, w59_9, w59_10, w59_11, w59_14, w59_17, w59_18, w59_19, w59_20, w59_21, w59_24, w59_25, w59_28, w59_31, w59_34, w59_37, w59_40, w59_41, w59_43, w59_46, w59_49, w59_50, w59_51, w59_54, w59_57, w59_58, w59_59, w59_60, w59_61, w59_64, w59_65, w59_67, w59_70, w59_73, w59_74, w59_75, w59_78, w59_79, w59_82, w59_83, w59_84, w59_85, w59_88, w59_89, w59_92, w59_95, w59_96, w59_99, Ko_n, Ko_v, vX_i, vX_r, vX_l, vX_j, reduceIte, Nat.reduceAdd]
      refine cput (c' := 18) h3 h4 (k9 (Lo_k g2 gk) g2.1 hn9.2 (fun z => Or.inl ?_)) (fun _ => rfl) fun χ h6 h7 h8 => ?_
      · have q := g2.2.2.2.2 z
        have q2 := hk.2 hb
        have q3 : pK (gin f n s) 5 = pK s 5 := by rw [hgn]; rfl
        have q4 : pG (gin f n s) = pG (rdOn f n s) := by rw [hgn]; rfl
        have q5 := (rdOn_O hf hs).2
        have q6 := hs.2.2.2.2.1 hb (by omega)
        omega
      simp (disch := (first | assumption | omega | exact Nat.le_of_ble_eq_true rfl | rfl)) only [w59_0, w59_1, w59_3, w59_6, w59_9, w59_10, w59_11, w59_14, w59_17, w59_18, w59_19, w59_20, w59_21, w59_24, w59_25, w59_28, w59_31, w59_34, w59_37, w59_40, w59_41, w59_43, w59_46, w59_49, w59_50, w59_51, w59_54, w59_57, w59_58, w59_59, w59_60, w59_61, w59_64, w59_65, w59_67, w59_70, w59_73, w59_74, w59_75, w59_78, w59_79, w59_82, w59_83, w59_84, w59_85, w59_88, w59_89, w59_92, w59_95, w59_96, w59_99, Ko_n, Ko_v, vX_i, vX_r, vX_l, vX_j, reduceIte]
      exact hQ χ h6 h7 (fL_t (fR_L h2) (fL_t h5 h8))
    · rw [if_neg e2]
      simp (disch := (first | assumption | omega | exact Nat.le_of_ble_eq_true rfl | rfl)) only [w59_0, w59_1, w59_3, w59_6, w59_9, w59_10, w59_11, w59_14, w59_17, w59_18, w59_19, w59_20, w59_21, w59_24, w59_25, w59_28, w59_31, w59_34, w59_37, w59_40, w59_41, w59_43, w59_46, w59_49, w59_50, w59_51, w59_54, w59_57, w59_58, w59_59, w59_60, w59_61, w59_64, w59_65, w59_67, w59_70, w59_73, w59_74, w59_75, w59_78, w59_79, w59_82, w59_83, w59_84, w59_85, w59_88, w59_89, w59_92, w59_95, w59_96, w59_99, Ko_n, Ko_v, vX_i, vX_r, vX_l, vX_j, reduceIte]
      have q1 := hFU _ g.1.1 gk (by rw [g.1.2.1]) e2
      have q3 : flt (dwn (lay 18 (un (gin f n s)))) = flt (gin f n s) := by rw [← q1.1]; exact flt_lay.1
      have q4 : fpl (dwn (lay 18 (un (gin f n s)))) = fpl (gin f n s) := by rw [← q1.2]; exact flt_lay.2.1
      exact hQ τ (Rc_f h1 e2 q3 q4) (lD_f (lD_fR hD h2) (by rw [q3]; exact e2)) (fR_L h2)
  | false =>
    simp (disch := (first | assumption | omega | exact Nat.le_of_ble_eq_true rfl | rfl)) only [w59_0, w59_1, w59_3, w59_6, w59_9, w59_10, w59_11, w59_14, w59_17, w59_18, w59_19, w59_20, w59_21, w59_24, w59_25, w59_28, w59_31, w59_34, w59_37, w59_40, w59_41, w59_43, w59_46, w59_49, w59_50, w59_51, w59_54, w59_57, w59_58, w59_59, w59_60, w59_61, w59_64, w59_65, w59_67, w59_70, w59_73, w59_74, w59_75, w59_78, w59_79, w59_82, w59_83, w59_84, w59_85, w59_88, w59_89, w59_92, w59_95, w59_96, w59_99, Ko_n, Ko_v, vX_i, vX_r, vX_l, vX_j, reduceIte, Bool.false_eq_true]
    rw [c43 hR hs (by omega) (by omega)]
    cases hz : isSg 91 s with
    | true =>
      have hh := isSg_h hz
      have hb := hh.1
      have he := (flt_b hb (by omega)).1
      unfold pUnt at hQ
      rw [if_pos hb, hw, if_neg Bool.false_ne_true, if_pos hz] at hQ
      have g := Lo_gi hf hs D1
      have gk := Lo_k g.1 hk
      have g2 := hLT _ g.1.1 gk (by rw [g.1.2.1]) (fun z => g.2 (by omega))
      simp (disch := (first | assumption | omega | exact Nat.le_of_ble_eq_true rfl | rfl)) only [w59_0, w59_1, w59_3, w59_6, w59_9, w59_10, w59_11, w59_14, w59_17, w59_18, w59_19, w59_20, w59_21, w59_24, w59_25, w59_28, w59_31, w59_34, w59_37, w59_40, w59_41, w59_43, w59_46, w59_49, w59_50, w59_51, w59_54, w59_57, w59_58, w59_59, w59_60, w59_61, w59_64, w59_65, w59_67, w59_70, w59_73, w59_74, w59_75, w59_78, w59_79, w59_82, w59_83, w59_84, w59_85, w59_88, w59_89, w59_92, w59_95, w59_96, w59_99, Ko_n, Ko_v, vX_i, vX_r, vX_l, vX_j, reduceIte, Int.reduceEq]
      refine c60 hR hf hs he D1 fun τ h1 h2 => ?_
      by_cases e2 : flt (gin f n s) = 0
      · rw [if_pos e2]
        have h6 : pD s < 6 := by
          rcases Int.lt_or_eq_of_le D1 with h | h
          · exact h
          · exact absurd (gin_f e2 h hs) (fun z => z)
        have hgn : gin f n s = stD (pD s + 1) (rdOn f n s) := by
          unfold gin rdO
          rw [if_neg (show ¬ pD s = 6 by omega)]
          exact if_pos (show pB (stD (pD s + 1) s) = 0 from hb)
        simp (disch := (first | assumption | omega | exact Nat.le_of_ble_eq_true rfl | rfl)) only [w59_0, w59_1, w59_3, w59_6, w59_9, w59_10, w59_11, w59_14, w59_17, w59_18, w59_19, w59_20, w59_21, w59_24, w59_25, w59_28, w59_31, w59_34, w59_37, w59_40, w59_41, w59_43, w59_46, w59_49, w59_50, w59_51, w59_54, w59_57, w59_58, w59_59, w59_60, w59_61, w59_64, w59_65, w59_67, w59_70, w59_73, w59_74, w59_75, w59_78, w59_79, w59_82, w59_83, w59_84, w59_85, w59_88, w59_89, w59_92, w59_95, w59_96, w59_99, Ko_n, Ko_v, vX_i, vX_r, vX_l, vX_j, reduceIte, Int.reduceEq]
        have hlD : lD τ (gin f n s) := lD_R hD h2 (fun _ => he) (by rw [hgn]; rfl)
        have hc := hT h6 d 1 (Ko (d + e + 12) M_X5_readUnit 64 61 [.ref 75, .int (i32 (pD s)), vmJ] [] Q) τ _ h1 hlD g.1.1 gk (by rw [g.1.2.1])
        rw [show d + (e + 12) = d + e + 12 by omega] at hc
        refine hc fun ρ h3 h4 h5 => ?_
        simp (disch := (first | assumption | omega | exact Nat.le_of_ble_eq_true rfl | rfl)) only [w59_0, w59_1, w59_3, w59_6, w59_9, w59_10, w59_11, w59_14, w59_17, w59_18, w59_19, w59_20, w59_21, w59_24, w59_25, w59_28, w59_31, w59_34, w59_37, w59_40, w59_41, w59_43, w59_46, w59_49, w59_50, w59_51, w59_54, w59_57, w59_58, w59_59, w59_60, w59_61, w59_64, w59_65, w59_67, w59_70, w59_73, w59_74, w59_75, w59_78, w59_79, w59_82, w59_83, w59_84, w59_85, w59_88, w59_89, w59_92, w59_95, w59_96, w59_99, Ko_n, Ko_v, vX_i, vX_r, vX_l, vX_j, reduceIte]
        refine c46 h3 hf g2.1 (by omega) (by omega) fun ω h6 h7 => ?_
        simp (disch := (first | assumption | omega | exact Nat.le_of_ble_eq_true rfl | rfl)) only [w59_0, w59_1, w59_3, w59_6, w59_9, w59_10, w59_11, w59_14, w59_17, w59_18, w59_19, w59_20, w59_21, w59_24, w59_25, w59_28, w59_31, w59_34, w59_37, w59_40, w59_41, w59_43, w59_46, w59_49, w59_50, w59_51, w59_54, w59_57, w59_58, w59_59, w59_60, w59_61, w59_64, w59_65, w59_67, w59_70, w59_73, w59_74, w59_75, w59_78, w59_79, w59_82, w59_83, w59_84, w59_85, w59_88, w59_89, w59_92, w59_95, w59_96, w59_99, Ko_n, Ko_v, vX_i, vX_r, vX_l, vX_j, reduceIte]
        refine hQ ω h6 ?_ (fL_t (fR_L h2) (fL_t h5 (fR_L h7)))
        exact lD_R h4 h7 (fun e3 => by
          by_cases e4 : flt (tr (gin f n s)) = 0
          · exact e4
          · rw [show flt (dwn (muS f n 93 (tr (gin f n s)))) = flt (muS f n 93 (tr (gin f n s))) from rfl, (muS_f g2.1 (by omega) e4).1] at e3
            exact e3) (Mv_mu hf g2.1).2.1
      · rw [if_neg e2]
        simp (disch := (first | assumption | omega | exact Nat.le_of_ble_eq_true rfl | rfl)) only [w59_0, w59_1, w59_3, w59_6, w59_9, w59_10, w59_11, w59_14, w59_17, w59_18, w59_19, w59_20, w59_21, w59_24, w59_25, w59_28, w59_31, w59_34, w59_37, w59_40, w59_41, w59_43, w59_46, w59_49, w59_50, w59_51, w59_54, w59_57, w59_58, w59_59, w59_60, w59_61, w59_64, w59_65, w59_67, w59_70, w59_73, w59_74, w59_75, w59_78, w59_79, w59_82, w59_83, w59_84, w59_85, w59_88, w59_89, w59_92, w59_95, w59_96, w59_99, Ko_n, Ko_v, vX_i, vX_r, vX_l, vX_j, reduceIte]
        have q1 := hFT _ g.1.1 gk (by rw [g.1.2.1]) e2
        have q2 := muS_f (f := f) (c := 93) g2.1 (by omega) (by rw [q1.1]; exact e2)
        have q3 : flt (dwn (muS f n 93 (tr (gin f n s)))) = flt (gin f n s) := by rw [← q1.1, ← q2.1]; rfl
        have q4 : fpl (dwn (muS f n 93 (tr (gin f n s)))) = fpl (gin f n s) := by rw [← q1.2, ← q2.2]; rfl
        exact hQ τ (Rc_f h1 e2 q3 q4) (lD_f (lD_fR hD h2) (by rw [q3]; exact e2)) (fR_L h2)
    | false =>
      have hQ' : ∀ τ, Rc f n τ (lay (cmC (pT (sm s))) (sm (cmS f n (sm s)))) → lD τ (lay (cmC (pT (sm s))) (sm (cmS f n (sm s)))) → fL σ τ → Q (.inl none) (E T τ) := by
        unfold pUnt at hQ
        by_cases hb : pB s = 0
        · rw [if_pos hb, hw, if_neg Bool.false_ne_true, hz, if_neg Bool.false_ne_true] at hQ
          exact hQ
        · rw [if_neg hb] at hQ
          have c0 : cmS f n s = s := by
            unfold cmS
            have : blm 2 s = s := by unfold blm; rw [if_neg hb]
            rw [this]
            have : (if pT s = 61 ∨ pT s = 60 ∨ pT s = 62 then s else s) = s := by split <;> rfl
            rw [this, rdO_b hb]
          have l0 : ∀ c, lay c s = s := fun c => by unfold lay; rw [if_neg hb]
          rw [hid s hb, c0, hid s hb, l0]
          exact hQ
      have b1 := hLS s hs hk rfl (fun z => by omega)
      have k1 := Lo_k b1 hk
      have hd1 : pD (sm s) = pD s := by rw [b1.2.1]; omega
      have b2 := Lo_cm hf b1.1
      have k2 := Lo_k b2 k1
      have hd2 : pD (cmS f n (sm s)) = pD s := by rw [b2.2.1]; omega
      have b3 := hLS _ b2.1 k2 hd2 (fun z => by omega)
      have k3 := Lo_k b3 k2
      simp (disch := (first | assumption | omega | exact Nat.le_of_ble_eq_true rfl | rfl)) only [w59_0, w59_1, w59_3, w59_6, w59_9, w59_10, w59_11, w59_14, w59_17, w59_18, w59_19, w59_20, w59_21, w59_24, w59_25, w59_28, w59_31, w59_34, w59_37, w59_40, w59_41, w59_43, w59_46, w59_49, w59_50, w59_51, w59_54, w59_57, w59_58, w59_59, w59_60, w59_61, w59_64, w59_65, w59_67, w59_70, w59_73, w59_74, w59_75, w59_78, w59_79, w59_82, w59_83, w59_84, w59_85, w59_88, w59_89, w59_92, w59_95, w59_96, w59_99, Ko_n, Ko_v, vX_i, vX_r, vX_l, vX_j, reduceIte, Bool.false_eq_true]
      have hc := hS d 1 (Ko (d + e + 12) M_X5_readUnit 78 75 [.ref 75, .int (i32 (pD s)), vmJ] [] Q) σ s hR hD hs hk rfl
      rw [show d + (e + 12) = d + e + 12 by omega] at hc
      refine hc fun τ h1 h2 h3 => ?_
      simp (disch := (first | assumption | omega | exact Nat.le_of_ble_eq_true rfl | rfl)) only [w59_0, w59_1, w59_3, w59_6, w59_9, w59_10, w59_11, w59_14, w59_17, w59_18, w59_19, w59_20, w59_21, w59_24, w59_25, w59_28, w59_31, w59_34, w59_37, w59_40, w59_41, w59_43, w59_46, w59_49, w59_50, w59_51, w59_54, w59_57, w59_58, w59_59, w59_60, w59_61, w59_64, w59_65, w59_67, w59_70, w59_73, w59_74, w59_75, w59_78, w59_79, w59_82, w59_83, w59_84, w59_85, w59_88, w59_89, w59_92, w59_95, w59_96, w59_99, Ko_n, Ko_v, vX_i, vX_r, vX_l, vX_j, reduceIte]
      refine c61 h1 hf b1.1 fun ρ v h4 h5 h6 h7 => ?_
      simp (disch := (first | assumption | omega | exact Nat.le_of_ble_eq_true rfl | rfl)) only [w59_0, w59_1, w59_3, w59_6, w59_9, w59_10, w59_11, w59_14, w59_17, w59_18, w59_19, w59_20, w59_21, w59_24, w59_25, w59_28, w59_31, w59_34, w59_37, w59_40, w59_41, w59_43, w59_46, w59_49, w59_50, w59_51, w59_54, w59_57, w59_58, w59_59, w59_60, w59_61, w59_64, w59_65, w59_67, w59_70, w59_73, w59_74, w59_75, w59_78, w59_79, w59_82, w59_83, w59_84, w59_85, w59_88, w59_89, w59_92, w59_95, w59_96, w59_99, Ko_n, Ko_v, vX_i, vX_r, vX_l, vX_j, reduceIte]
      have hlD : lD ρ (cmS f n (sm s)) := lD_R h2 h5 (fun z => by
        by_cases e4 : flt (sm s) = 0
        · exact e4
        · rw [(cmS_f b1.1 e4).1] at z; exact z) (by
        unfold cmS
        split
        · exact (Mv_rO hf b1.1).2.1
        · exact (Mv_t (Mv_bl b1.1 (by omega) (by omega)) (Mv_rO hf (Mv_bl b1.1 (by omega) (by omega)).1)).2.1)
      have hc2 := hS d 1 (Ko (d + e + 12) M_X5_readUnit 88 85 [.ref 75, .int (i32 (pD s)), .int (i32 v)] [] Q) ρ _ h4 hlD b2.1 k2 hd2
      rw [show d + (e + 12) = d + e + 12 by omega] at hc2
      refine hc2 fun ω h8 h9 h10 => ?_
      simp (disch := (first | assumption | omega | exact Nat.le_of_ble_eq_true rfl | rfl)) only [w59_0, w59_1, w59_3, w59_6, w59_9, w59_10, w59_11, w59_14, w59_17, w59_18, w59_19, w59_20, w59_21, w59_24, w59_25, w59_28, w59_31, w59_34, w59_37, w59_40, w59_41, w59_43, w59_46, w59_49, w59_50, w59_51, w59_54, w59_57, w59_58, w59_59, w59_60, w59_61, w59_64, w59_65, w59_67, w59_70, w59_73, w59_74, w59_75, w59_78, w59_79, w59_82, w59_83, w59_84, w59_85, w59_88, w59_89, w59_92, w59_95, w59_96, w59_99, Ko_n, Ko_v, vX_i, vX_r, vX_l, vX_j, reduceIte, Nat.reduceAdd]
      refine cput (c' := cmC (pT (sm s))) h8 h9 (k9 k3 b3.1 hn9.2 (fun z => Or.inl ?_)) (fun z => ?_) fun χ h11 h12 h13 => ?_
      · have q := b3.2.2.2.2 z
        have q1 := cmS_B b1.1 q.1
        have q2 := k1.2 q1.2.2
        have q3 : pK (cmS f n (sm s)) 5 = pK (sm s) 5 := by rw [q1.1]; rfl
        have q4 : pG (cmS f n (sm s)) = pG (rdOn f n (sm s)) := by rw [q1.1]
        have q5 := (rdOn_O hf b1.1).2
        have q6 := b1.1.2.2.2.2.1 q1.2.2 q1.2.1
        omega
      · refine (h7 ?_).symm
        by_cases e4 : flt (cmS f n (sm s)) = 0
        · exact e4
        · exfalso
          have q := b3.2.2.2.2 (flt_0 z).1
          rcases flt_n e4 with w | w
          · exact w q.1
          · have := hFS (cmS f n (sm s)) b2.1 k2 hd2 e4
            rw [this.1] at z
            exact e4 z
      simp (disch := (first | assumption | omega | exact Nat.le_of_ble_eq_true rfl | rfl)) only [w59_0, w59_1, w59_3, w59_6, w59_9, w59_10, w59_11, w59_14, w59_17, w59_18, w59_19, w59_20, w59_21, w59_24, w59_25, w59_28, w59_31, w59_34, w59_37, w59_40, w59_41, w59_43, w59_46, w59_49, w59_50, w59_51, w59_54, w59_57, w59_58, w59_59, w59_60, w59_61, w59_64, w59_65, w59_67, w59_70, w59_73, w59_74, w59_75, w59_78, w59_79, w59_82, w59_83, w59_84, w59_85, w59_88, w59_89, w59_92, w59_95, w59_96, w59_99, Ko_n, Ko_v, vX_i, vX_r, vX_l, vX_j, reduceIte]
      exact hQ' χ h11 h12 (fL_t h3 (fL_t (fR_L h5) (fL_t h10 h13)))
/-! levels -/
theorem id_lp {F : Ps → Ps} {c : Ps → Bool} {b : Ps → Ps} {m : Nat} (hc : ∀ s, pB s ≠ 0 → c s = false) (hF : ∀ s, pB s ≠ 0 → F s = s) : ∀ s, pB s ≠ 0 → lpG c b m (F s) = s := fun s h => by
  rw [hF s h, lpG_0 (n := 0) (hc s h)]
theorem id_sm {f : Int → Int} {n : Int} {sub : Ps → Ps} : ∀ s, pB s ≠ 0 → pSm f n sub s = s :=
  id_lp (fun s h => by rw [isSg_b h, isSg_b h]; rfl) (id_lp (fun s h => isSg_b h) (fun s h => by unfold pAtm; rw [if_neg h]))
theorem cC_sm {e : Nat} {f : Int → Int} {n D : Int} {T : Tt} {sub : Ps → Ps} (hf : tpOk f n) (hD : D ≤ 6) (h : rL n (D + 1) sub) (hFo : Fo n (D + 1) sub) (hC : D < 6 → cC T f n (D + 1) 62 (e + 9) sub) : cC T f n D 62 (e + 12) (pSm f n sub) := by
  have h1 : opC n D (pAtm f n sub) := Lo_atm hf hD fun s a b c e => h s a b c (fun z => e (by omega))
  have h2 : opC n D (pTrm f n sub) := Lo_trm hf h1
  exact c62 hf hD ((rL_op hD).mpr h2) (c63 hf hD ((rL_op hD).mpr h1) (c64 hf hD h hFo hC))
theorem smD_L {f : Int → Int} {n : Int} (hf : tpOk f n) : ∀ m : Nat, m ≤ 6 → rL n (6 - m) (smD f n m)
  | 0, _ => rL_sm hf (by omega) rL_id
  | m + 1, h => rL_sm hf (by omega) (by rw [show (6 : Int) - ((m + 1 : Nat) : Int) + 1 = 6 - (m : Int) by omega]; exact smD_L hf m (by omega))
theorem unD_L {f : Int → Int} {n : Int} (hf : tpOk f n) : ∀ m : Nat, m ≤ 6 → rL n (6 - m) (unD f n m)
  | 0, _ => (rL_op (by omega)).mpr (Lo_unt hf (by omega) (fun s hs _ _ _ => Lo_r hs) (fun s hs _ _ _ => Lo_r hs) ((rL_op (by omega)).mp (smD_L hf 0 (by omega))))
  | m + 1, h => by
    have ih := unD_L hf m (by omega)
    have hT := rL_tr hf (by omega) ih
    exact (rL_op (by omega)).mpr (Lo_unt hf (by omega) (fun s a b c e => ih s a b (by rw [c]; omega) (fun z => e (by omega))) (fun s a b c e => hT.2 s a b (by rw [c]; omega) (fun z => e (by omega))) ((rL_op (by omega)).mp (smD_L hf (m + 1) h)))
theorem smD_C {f : Int → Int} {n : Int} {T : Tt} (hf : tpOk f n) : ∀ m : Nat, m ≤ 6 → cC T f n (6 - m) 62 (3 * m + 12) (smD f n m)
  | 0, _ => cC_sm (e := 0) hf (by omega) rL_id (fun s _ _ _ _ => ⟨rfl, rfl⟩) (fun z => absurd z (by omega))
  | m + 1, h => by
    have ih := smD_C (T := T) hf m (by omega)
    have e1 : (6 : Int) - ((m + 1 : Nat) : Int) + 1 = 6 - (m : Int) := by omega
    have := cC_sm (e := 3 * m + 3) (T := T) (D := (6 : Int) - ((m + 1 : Nat) : Int)) (sub := smD f n m) hf (by omega) (by rw [e1]; exact smD_L hf m (by omega)) (by rw [e1]; exact Fo_smD m) (fun _ => by rw [e1, show 3 * m + 3 + 9 = 3 * m + 12 by omega]; exact ih)
    rwa [show 3 * m + 3 + 12 = 3 * (m + 1) + 12 by omega] at this
theorem cC_tr {e : Nat} {f : Int → Int} {n D : Int} {T : Tt} {u : Ps → Ps} (hf : tpOk f n) (hD : D ≤ 6) (h : rL n D u) (hC : cC T f n D 59 (e + 13) u) : cC T f n D 57 (e + 15) (pTru f n u) := c57 hf hD (rL_tr hf hD h).1 (c58 hf hD h hC)
theorem id_smD {f : Int → Int} {n : Int} : ∀ (m : Nat) (s : Ps), pB s ≠ 0 → smD f n m s = s
  | 0, s, h => id_sm s h
  | m + 1, s, h => id_sm s h
theorem unD_C {f : Int → Int} {n : Int} {T : Tt} (hf : tpOk f n) : ∀ m : Nat, m ≤ 6 → cC T f n (6 - m) 59 (3 * m + 13) (unD f n m)
  | 0, _ => c59 (e := 0) hf (by omega) rL_id rL_id (smD_L hf 0 (by omega)) (fun s _ _ _ _ => ⟨rfl, rfl⟩) (fun s _ _ _ _ => ⟨rfl, rfl⟩) (Fo_smD 0) (id_smD 0) (fun z => absurd z (by omega)) (fun z => absurd z (by omega)) (smD_C hf 0 (by omega))
  | m + 1, h => by
    have ih := unD_C (T := T) hf m (by omega)
    have hU := unD_L hf m (by omega)
    have hT := rL_tr hf (by omega) hU
    have hF := Fo_unD hf (smD_L hf) m (by omega)
    have hTC := cC_tr hf (by omega) hU ih
    have e1 : (6 : Int) - ((m + 1 : Nat) : Int) + 1 = 6 - (m : Int) := by omega
    have := c59 (e := 3 * m + 3) (T := T) (D := (6 : Int) - ((m + 1 : Nat) : Int)) hf (by omega) (by rw [e1]; exact hU) (by rw [e1]; exact hT.2) (smD_L hf (m + 1) h) (by rw [e1]; exact hF) (by rw [e1]; exact (Fo_tr hF).2) (Fo_smD (m + 1)) (id_smD (m + 1)) (fun _ => by rw [e1, show 3 * m + 3 + 10 = 3 * m + 13 by omega]; exact ih) (fun _ => by rw [e1, show 3 * m + 3 + 12 = 3 * m + 15 by omega]; exact hTC) (by rw [show 3 * m + 3 + 12 = 3 * (m + 1) + 12 by omega]; exact smD_C hf (m + 1) h)
    rwa [show 3 * m + 3 + 13 = 3 * (m + 1) + 13 by omega] at this
theorem truD_C {f : Int → Int} {n : Int} {T : Tt} (hf : tpOk f n) : cC T f n 0 57 33 (pTru f n (unD f n 6)) ∧ rL n 0 (pTru f n (unD f n 6)) := ⟨cC_tr (e := 18) hf (by omega) (unD_L hf 6 (by omega)) (unD_C hf 6 (by omega)), (rL_tr hf (by omega) (unD_L hf 6 (by omega))).2⟩
