/-! ===== the class's reader: words, signs, numbers ===== -/
theorem isWd_n {f : Int → Int} {i : Nat} {s : Ps} (h : flt s ≠ 0) : isWd f i s = false := by
  cases e : isWd f i s with
  | false => rfl
  | true =>
    exfalso
    have := isWd_h e
    rcases flt_n h with h1 | h1
    · exact h1 this.1
    · omega
theorem isSg_n {c : Int} {s : Ps} (h : flt s ≠ 0) (c3 : c ≠ 3) : isSg c s = false := by
  cases e : isSg c s with
  | false => rfl
  | true =>
    exfalso
    have := isSg_h e
    rcases flt_n h with h1 | h1
    · exact h1 this.1
    · omega
theorem flt_i1 {s : Ps} (h : flt s = 0) : soP s = 1 ↔ pT s = 1 := by
  unfold soP
  repeat' split
  all_goals omega
theorem flt_i2 {s : Ps} : soP s = 2 ↔ pT s = 2 := by
  unfold soP
  repeat' split
  all_goals omega
theorem c42 {d i r : Nat} {k n : Int} {f : Int → Int} {T : Tt} {σ : St} {s : Ps} {Q : vmO → vmH → Prop} (hr : r = 1000000 + 2 * i) (hR : Rc f n σ s) (hf : tpOk f n) (hs : pO n s) (hi : i < 22) : Ca (d + 4) k 42 [.ref 75, .ref r] (E T σ) Q = Q (.inl (some (.int (i32 (if isWd f i s then 1 else 0))))) (E T σ) := by
  subst hr
  have h0 := ob_rd
  have hh := ob_hp
  have hn9 := hf.2
  have hfi := flt_in hs
  obtain ⟨a1, a2, a3, a4, a5, a6, a7, a8⟩ := hR
  have h7 : (σ 505 75 0).toNat = A 1100 0 := by rw [a1]; rfl
  have hl := (tb_ok i hi).1
  have hl2 := (tb_ok i hi).2.1
  rw [n42 _ _ _ _ _ _ _ h0]
  by_cases e : flt s = 0
  · obtain ⟨g1, g2, g3, g4, g5⟩ := a8 e
    have e0 := flt_0 e
    obtain ⟨o1, o2, o3, o4, o5, o6⟩ := hs
    by_cases e1 : pT s = 1
    · have e1' := (flt_i1 e).mpr e1
      by_cases e2 : pH s - pG s = (vmByt i).length
      · have hw : isWd f i s = wdm f (pG s) i (vmByt i).length := by unfold isWd; rw [decide_eq_true ⟨e0.1, e1, e2⟩, Bool.true_and]
        rw [hw]
        have loop : ∀ (m j : Nat), j + m = (vmByt i).length → wdm f (pG s) i j = true → Wp (d + 4) M_X5_isWord 35 [.ref 75, .ref (1000000 + 2 * i), .int (i32 j)] [] (E T σ) Q = Q (.inl (some (.int (i32 (if wdm f (pG s) i (vmByt i).length then 1 else 0))))) (E T σ) := by
          intro m
          induction m with
          | zero =>
            intro j hj hw
            have hj : j = (vmByt i).length := by omega
            subst hj
            rw [w42_35, if_pos hw]
            simp (disch := (first | assumption | omega | exact Nat.le_of_ble_eq_true rfl | rfl)) only [w42_0, w42_1, w42_4, w42_7, w42_8, w42_11, w42_12, w42_15, w42_16, w42_19, w42_20, w42_23, w42_24, w42_25, w42_28, w42_31, w42_32, w42_33, w42_34, w42_36, w42_37, w42_40, w42_43, w42_44, w42_47, w42_48, w42_51, w42_52, w42_53, w42_54, w42_55, w42_56, w42_59, w42_62, w42_63, w42_64, w42_67, w42_70, w42_71, Ko_n, Ko_v, vX_i, vX_r, vX_l, vX_j, reduceIte, c308 hi, Int.le_refl]
          | succ m ih =>
            intro j hj hw
            have hb := tb_in hi j
            have hfb := hf.1 (pG s + j) (by omega) (by omega)
            rw [w42_35]
            simp (disch := (first | assumption | omega | exact Nat.le_of_ble_eq_true rfl | rfl)) only [w42_0, w42_1, w42_4, w42_7, w42_8, w42_11, w42_12, w42_15, w42_16, w42_19, w42_20, w42_23, w42_24, w42_25, w42_28, w42_31, w42_32, w42_33, w42_34, w42_36, w42_37, w42_40, w42_43, w42_44, w42_47, w42_48, w42_51, w42_52, w42_53, w42_54, w42_55, w42_56, w42_59, w42_62, w42_63, w42_64, w42_67, w42_70, w42_71, Ko_n, Ko_v, vX_i, vX_r, vX_l, vX_j, reduceIte, c308 hi, show ¬ ((vmByt i).length : Int) ≤ (j : Int) by omega, h7, a3, g1]
            rw [c309 hi (by omega) (by omega)]
            by_cases e2 : f (pG s + j) = tb i j
            · have ih' := ih (j + 1) (by omega) (by
                show (wdm f (pG s) i j && decide (f (pG s + j) = tb i j)) = true
                rw [hw, decide_eq_true e2]; rfl)
              simp (disch := (first | assumption | omega | exact Nat.le_of_ble_eq_true rfl | rfl)) only [w42_0, w42_1, w42_4, w42_7, w42_8, w42_11, w42_12, w42_15, w42_16, w42_19, w42_20, w42_23, w42_24, w42_25, w42_28, w42_31, w42_32, w42_33, w42_34, w42_36, w42_37, w42_40, w42_43, w42_44, w42_47, w42_48, w42_51, w42_52, w42_53, w42_54, w42_55, w42_56, w42_59, w42_62, w42_63, w42_64, w42_67, w42_70, w42_71, Ko_n, Ko_v, vX_i, vX_r, vX_l, vX_j, reduceIte, e2]
              exact ih'
            · have hx := wdm_f e2 m
              rw [show j + 1 + m = (vmByt i).length by omega] at hx
              simp (disch := (first | assumption | omega | exact Nat.le_of_ble_eq_true rfl | rfl)) only [w42_0, w42_1, w42_4, w42_7, w42_8, w42_11, w42_12, w42_15, w42_16, w42_19, w42_20, w42_23, w42_24, w42_25, w42_28, w42_31, w42_32, w42_33, w42_34, w42_36, w42_37, w42_40, w42_43, w42_44, w42_47, w42_48, w42_51, w42_52, w42_53, w42_54, w42_55, w42_56, w42_59, w42_62, w42_63, w42_64, w42_67, w42_70, w42_71, Ko_n, Ko_v, vX_i, vX_r, vX_l, vX_j, reduceIte, e2, hx, Bool.false_eq_true]
        simp (disch := (first | assumption | omega | exact Nat.le_of_ble_eq_true rfl | rfl)) only [w42_0, w42_1, w42_4, w42_7, w42_8, w42_11, w42_12, w42_15, w42_16, w42_19, w42_20, w42_23, w42_24, w42_25, w42_28, w42_31, w42_32, w42_33, w42_34, w42_36, w42_37, w42_40, w42_43, w42_44, w42_47, w42_48, w42_51, w42_52, w42_53, w42_54, w42_55, w42_56, w42_59, w42_62, w42_63, w42_64, w42_67, w42_70, w42_71, Ko_n, Ko_v, vX_i, vX_r, vX_l, vX_j, reduceIte, a6, e, g3, e1', g1, g2, e2, not_true, c308 hi]
        exact loop (vmByt i).length 0 (by omega) rfl
      · have hw : isWd f i s = false := by unfold isWd; rw [decide_eq_false fun w => e2 w.2.2, Bool.false_and]
        rw [hw]
        simp (disch := (first | assumption | omega | exact Nat.le_of_ble_eq_true rfl | rfl)) only [w42_0, w42_1, w42_4, w42_7, w42_8, w42_11, w42_12, w42_15, w42_16, w42_19, w42_20, w42_23, w42_24, w42_25, w42_28, w42_31, w42_32, w42_33, w42_34, w42_36, w42_37, w42_40, w42_43, w42_44, w42_47, w42_48, w42_51, w42_52, w42_53, w42_54, w42_55, w42_56, w42_59, w42_62, w42_63, w42_64, w42_67, w42_70, w42_71, Ko_n, Ko_v, vX_i, vX_r, vX_l, vX_j, reduceIte, a6, e, g3, e1', g1, g2, e2, not_true, c308 hi, Bool.false_eq_true]
    · have hw : isWd f i s = false := by unfold isWd; rw [decide_eq_false fun w => e1 w.2.1, Bool.false_and]
      have e1' : ¬ soP s = 1 := fun w => e1 ((flt_i1 e).mp w)
      rw [g3] at a4
      rw [hw]
      simp (disch := (first | assumption | omega | exact Nat.le_of_ble_eq_true rfl | rfl)) only [w42_0, w42_1, w42_4, w42_7, w42_8, w42_11, w42_12, w42_15, w42_16, w42_19, w42_20, w42_23, w42_24, w42_25, w42_28, w42_31, w42_32, w42_33, w42_34, w42_36, w42_37, w42_40, w42_43, w42_44, w42_47, w42_48, w42_51, w42_52, w42_53, w42_54, w42_55, w42_56, w42_59, w42_62, w42_63, w42_64, w42_67, w42_70, w42_71, Ko_n, Ko_v, vX_i, vX_r, vX_l, vX_j, reduceIte, a6, e, g3, e1', not_true, not_false_eq_true, Bool.false_eq_true]
  · rw [isWd_n e]
    simp (disch := (first | assumption | omega | exact Nat.le_of_ble_eq_true rfl | rfl)) only [w42_0, w42_1, w42_4, w42_7, w42_8, w42_11, w42_12, w42_15, w42_16, w42_19, w42_20, w42_23, w42_24, w42_25, w42_28, w42_31, w42_32, w42_33, w42_34, w42_36, w42_37, w42_40, w42_43, w42_44, w42_47, w42_48, w42_51, w42_52, w42_53, w42_54, w42_55, w42_56, w42_59, w42_62, w42_63, w42_64, w42_67, w42_70, w42_71, Ko_n, Ko_v, vX_i, vX_r, vX_l, vX_j, reduceIte, a6, e, not_false_eq_true, Bool.false_eq_true]
theorem c43 {d : Nat} {k c n : Int} {f : Int → Int} {T : Tt} {σ : St} {s : Ps} {Q : vmO → vmH → Prop} (hR : Rc f n σ s) (hs : pO n s) (c0 : 4 ≤ c) (c1 : c ≤ 255) : Ca d k 43 [.ref 75, .int (i32 c)] (E T σ) Q = Q (.inl (some (.int (i32 (if isSg c s then 1 else 0))))) (E T σ) := by
  have h0 := ob_rd
  have hfi := flt_in hs
  obtain ⟨a1, a2, a3, a4, a5, a6, a7, a8⟩ := hR
  rw [n43 _ _ _ _ _ _ _ h0]
  by_cases e : flt s = 0
  · obtain ⟨g1, g2, g3, g4, g5⟩ := a8 e
    have e0 := flt_0 e
    by_cases e3 : soP s = 3
    · have g6 := g5 e3
      have ht := hs.2.1
      by_cases e4 : pT s = c
      · rw [if_pos (show isSg c s = true from decide_eq_true ⟨e0.1, e4⟩)]
        simp (disch := (first | assumption | omega | exact Nat.le_of_ble_eq_true rfl | rfl)) only [w43_0, w43_1, w43_4, w43_7, w43_8, w43_11, w43_12, w43_15, w43_16, w43_19, w43_20, w43_23, w43_24, w43_27, w43_28, Ko_n, Ko_v, vX_i, vX_r, vX_l, vX_j, reduceIte, a6, e, g3, e3, g6, e4, not_true]
      · rw [if_neg (show ¬ isSg c s = true from fun w => e4 (isSg_h w).2)]
        simp (disch := (first | assumption | omega | exact Nat.le_of_ble_eq_true rfl | rfl)) only [w43_0, w43_1, w43_4, w43_7, w43_8, w43_11, w43_12, w43_15, w43_16, w43_19, w43_20, w43_23, w43_24, w43_27, w43_28, Ko_n, Ko_v, vX_i, vX_r, vX_l, vX_j, reduceIte, a6, e, g3, e3, g6, e4, not_true, not_false_eq_true]
    · have e4 : pT s ≠ c := fun w => by
        apply e3
        unfold soP
        rw [if_neg (by omega), if_neg (by omega), if_neg (by omega)]
      rw [if_neg (show ¬ isSg c s = true from fun w => e4 (isSg_h w).2)]
      rw [g3] at a4
      simp (disch := (first | assumption | omega | exact Nat.le_of_ble_eq_true rfl | rfl)) only [w43_0, w43_1, w43_4, w43_7, w43_8, w43_11, w43_12, w43_15, w43_16, w43_19, w43_20, w43_23, w43_24, w43_27, w43_28, Ko_n, Ko_v, vX_i, vX_r, vX_l, vX_j, reduceIte, a6, e, g3, e3, not_true, not_false_eq_true]
  · rw [isSg_n e (by omega)]
    simp (disch := (first | assumption | omega | exact Nat.le_of_ble_eq_true rfl | rfl)) only [w43_0, w43_1, w43_4, w43_7, w43_8, w43_11, w43_12, w43_15, w43_16, w43_19, w43_20, w43_23, w43_24, w43_27, w43_28, Ko_n, Ko_v, vX_i, vX_r, vX_l, vX_j, reduceIte, a6, e, not_false_eq_true, Bool.false_eq_true]
theorem c44 {d i r : Nat} {k n : Int} {f : Int → Int} {T : Tt} {σ : St} {s : Ps} {Q : vmO → vmH → Prop} (hr : r = 1000000 + 2 * i) (hR : Rc f n σ s) (hf : tpOk f n) (hs : pO n s) (hi : i < 22) (hQ1 : isWd f i s = true → ∀ τ, Rc f n τ (rdOn f n s) → fR σ τ → Q (.inl (some (.int (i32 1)))) (E T τ)) (hQ0 : isWd f i s = false → Q (.inl (some (.int (i32 0)))) (E T σ)) : Ca (d + 5) k 44 [.ref 75, .ref r] (E T σ) Q := by
  have h0 := ob_rd
  rw [n44 _ _ _ _ _ _ _ h0]
  simp (disch := (first | assumption | omega | exact Nat.le_of_ble_eq_true rfl | rfl)) only [w44_0, w44_1, w44_2, w44_5, w44_6, w44_7, w44_10, w44_11, w44_14, w44_15, Ko_n, Ko_v, vX_i, vX_r, vX_l, vX_j, reduceIte]
  rw [c42 hr hR hf hs hi]
  cases e : isWd f i s with
  | true =>
    simp (disch := (first | assumption | omega | exact Nat.le_of_ble_eq_true rfl | rfl)) only [w44_0, w44_1, w44_2, w44_5, w44_6, w44_7, w44_10, w44_11, w44_14, w44_15, Ko_n, Ko_v, vX_i, vX_r, vX_l, vX_j, reduceIte, Int.reduceEq]
    have hb := isWd_h e
    refine c40 hR hf hs (flt_b hb.1 (by omega)).1 fun τ h1 h2 => ?_
    simp (disch := (first | assumption | omega | exact Nat.le_of_ble_eq_true rfl | rfl)) only [w44_0, w44_1, w44_2, w44_5, w44_6, w44_7, w44_10, w44_11, w44_14, w44_15, Ko_n, Ko_v, vX_i, vX_r, vX_l, vX_j, reduceIte]
    exact hQ1 e τ h1 h2
  | false =>
    simp (disch := (first | assumption | omega | exact Nat.le_of_ble_eq_true rfl | rfl)) only [w44_0, w44_1, w44_2, w44_5, w44_6, w44_7, w44_10, w44_11, w44_14, w44_15, Ko_n, Ko_v, vX_i, vX_r, vX_l, vX_j, reduceIte, Bool.false_eq_true]
    exact hQ0 e
theorem c45 {d : Nat} {k c n : Int} {f : Int → Int} {T : Tt} {σ : St} {s : Ps} {Q : vmO → vmH → Prop} (hR : Rc f n σ s) (hf : tpOk f n) (hs : pO n s) (c0 : 4 ≤ c) (c1 : c ≤ 255) (hQ1 : isSg c s = true → ∀ τ, Rc f n τ (rdOn f n s) → fR σ τ → Q (.inl (some (.int (i32 1)))) (E T τ)) (hQ0 : isSg c s = false → Q (.inl (some (.int (i32 0)))) (E T σ)) : Ca (d + 5) k 45 [.ref 75, .int (i32 c)] (E T σ) Q := by
  have h0 := ob_rd
  rw [n45 _ _ _ _ _ _ _ h0]
  simp (disch := (first | assumption | omega | exact Nat.le_of_ble_eq_true rfl | rfl)) only [w45_0, w45_1, w45_2, w45_5, w45_6, w45_7, w45_10, w45_11, w45_14, w45_15, Ko_n, Ko_v, vX_i, vX_r, vX_l, vX_j, reduceIte]
  rw [c43 hR hs c0 c1]
  cases e : isSg c s with
  | true =>
    simp (disch := (first | assumption | omega | exact Nat.le_of_ble_eq_true rfl | rfl)) only [w45_0, w45_1, w45_2, w45_5, w45_6, w45_7, w45_10, w45_11, w45_14, w45_15, Ko_n, Ko_v, vX_i, vX_r, vX_l, vX_j, reduceIte, Int.reduceEq]
    have hb := isSg_h e
    refine c40 hR hf hs (flt_b hb.1 (by omega)).1 fun τ h1 h2 => ?_
    simp (disch := (first | assumption | omega | exact Nat.le_of_ble_eq_true rfl | rfl)) only [w45_0, w45_1, w45_2, w45_5, w45_6, w45_7, w45_10, w45_11, w45_14, w45_15, Ko_n, Ko_v, vX_i, vX_r, vX_l, vX_j, reduceIte]
    exact hQ1 e τ h1 h2
  | false =>
    simp (disch := (first | assumption | omega | exact Nat.le_of_ble_eq_true rfl | rfl)) only [w45_0, w45_1, w45_2, w45_5, w45_6, w45_7, w45_10, w45_11, w45_14, w45_15, Ko_n, Ko_v, vX_i, vX_r, vX_l, vX_j, reduceIte, Bool.false_eq_true]
    exact hQ0 e
theorem muS_e {f : Int → Int} {n c : Int} {s : Ps} (hs : pO n s) : muS f n c s = if isSg c s then rdOn f n s else blm 2 s := by
  unfold muS rdO
  by_cases e : pT s = c
  · rw [if_pos e]
    by_cases e2 : pB s = 0
    · rw [if_pos e2, if_pos (show isSg c s = true from decide_eq_true ⟨e2, e⟩)]
    · rw [if_neg e2, isSg_b e2, if_neg (by simp)]
      unfold blm
      rw [if_neg e2]
  · rw [if_neg e, if_neg (blm_O hs (by omega) (by omega)).2, if_neg (show ¬ isSg c s = true from fun w => e (isSg_h w).2)]
theorem c46 {d : Nat} {k c n : Int} {f : Int → Int} {T : Tt} {σ : St} {s : Ps} {Q : vmO → vmH → Prop} (hR : Rc f n σ s) (hf : tpOk f n) (hs : pO n s) (c0 : 4 ≤ c) (c1 : c ≤ 255) (hQ : ∀ τ, Rc f n τ (muS f n c s) → fR σ τ → Q (.inl none) (E T τ)) : Ca (d + 6) k 46 [.ref 75, .int (i32 c)] (E T σ) Q := by
  have h0 := ob_rd
  rw [muS_e hs] at hQ
  rw [n46 _ _ _ _ _ _ _ h0]
  simp (disch := (first | assumption | omega | exact Nat.le_of_ble_eq_true rfl | rfl)) only [w46_0, w46_1, w46_2, w46_5, w46_8, w46_9, w46_10, w46_13, Ko_n, Ko_v, vX_i, vX_r, vX_l, vX_j, reduceIte]
  refine c45 hR hf hs c0 c1 (fun e τ h1 h2 => ?_) (fun e => ?_)
  · rw [if_pos e] at hQ
    simp (disch := (first | assumption | omega | exact Nat.le_of_ble_eq_true rfl | rfl)) only [w46_0, w46_1, w46_2, w46_5, w46_8, w46_9, w46_10, w46_13, Ko_n, Ko_v, vX_i, vX_r, vX_l, vX_j, reduceIte, Int.reduceEq, not_false_eq_true]
    exact hQ τ h1 h2
  · rw [e, if_neg (by simp)] at hQ
    simp (disch := (first | assumption | omega | exact Nat.le_of_ble_eq_true rfl | rfl)) only [w46_0, w46_1, w46_2, w46_5, w46_8, w46_9, w46_10, w46_13, Ko_n, Ko_v, vX_i, vX_r, vX_l, vX_j, reduceIte, not_true]
    refine c39 hR hs (by omega) fun τ h1 h2 => ?_
    simp (disch := (first | assumption | omega | exact Nat.le_of_ble_eq_true rfl | rfl)) only [w46_0, w46_1, w46_2, w46_5, w46_8, w46_9, w46_10, w46_13, Ko_n, Ko_v, vX_i, vX_r, vX_l, vX_j, reduceIte]
    exact hQ τ h1 h2
theorem lkN_f {n lo hi : Int} {s : Ps} (hs : pO n s) : flt (lkN lo hi s) = 0 ↔ pB (lkN lo hi s) = 0 := by
  constructor
  · intro h; exact (flt_0 h).1
  · intro h
    have := lkN_0 hs h
    rw [this.1]
    exact (flt_b this.2.1 (by omega)).1
theorem c47 {d : Nat} {k lo hi n : Int} {f : Int → Int} {T : Tt} {σ : St} {s : Ps} {Q : vmO → vmH → Prop} (hR : Rc f n σ s) (hs : pO n s) (l0 : -1000 ≤ lo) (l1 : lo ≤ 1000) (m0 : -1000 ≤ hi) (m1 : hi ≤ 1000) (hQ : ∀ τ, Rc f n τ (lkN lo hi s) → fR σ τ → Q (.inl (some (.int (i32 (if pB (lkN lo hi s) = 0 then pV s else 0))))) (E T τ)) : Ca (d + 1) k 47 [.ref 75, .int (i32 lo), .int (i32 hi)] (E T σ) Q := by
  have h0 := ob_rd
  have hfi := flt_in hs
  have hR' := hR
  obtain ⟨a1, a2, a3, a4, a5, a6, a7, a8⟩ := hR
  rw [n47 _ _ _ _ _ _ _ _ h0]
  have tl : ∀ τ, Rc f n τ (lkN lo hi s) → fR σ τ → Wp (d + 1) M_X5_lookNumber 37 [.ref 75, .int (i32 lo), .int (i32 hi)] [] (E T τ) Q := by
    intro τ h1 h2
    have hO := lkN_O (lo := lo) (hi := hi) hs
    have hfi2 := flt_in hO
    have hq := hQ τ h1 h2
    by_cases e : pB (lkN lo hi s) = 0
    · rw [if_pos e] at hq
      have e2 := lkN_0 hs e
      have e3 := (lkN_f hs).mpr e
      have h3 := h1.2.2.2.2.2.2.2 e3
      have h4 := h3.2.2.2.1 (by rw [e2.1]; exact e2.2.2.1)
      rw [lkN_V] at h4
      simp (disch := (first | assumption | omega | exact Nat.le_of_ble_eq_true rfl | rfl)) only [w47_0, w47_1, w47_4, w47_5, w47_8, w47_9, w47_10, w47_13, w47_16, w47_17, w47_20, w47_21, w47_24, w47_25, w47_28, w47_29, w47_32, w47_33, w47_34, w47_37, w47_38, w47_41, w47_44, w47_45, w47_48, w47_51, w47_52, Ko_n, Ko_v, vX_i, vX_r, vX_l, vX_j, reduceIte, h1.2.2.2.2.2.1, e3, h4, not_true]
      exact hq
    · rw [if_neg e] at hq
      have e3 : ¬ flt (lkN lo hi s) = 0 := fun w => e ((lkN_f hs).mp w)
      simp (disch := (first | assumption | omega | exact Nat.le_of_ble_eq_true rfl | rfl)) only [w47_0, w47_1, w47_4, w47_5, w47_8, w47_9, w47_10, w47_13, w47_16, w47_17, w47_20, w47_21, w47_24, w47_25, w47_28, w47_29, w47_32, w47_33, w47_34, w47_37, w47_38, w47_41, w47_44, w47_45, w47_48, w47_51, w47_52, Ko_n, Ko_v, vX_i, vX_r, vX_l, vX_j, reduceIte, h1.2.2.2.2.2.1, e3, not_false_eq_true]
      exact hq
  by_cases e : flt s = 0
  · obtain ⟨g1, g2, g3, g4, g5⟩ := a8 e
    by_cases e1 : pT s = 2
    · have e1' := flt_i2.mpr e1
      have g6 := g4 e1
      rw [g3, e1'] at a4
      rw [g6] at a5
      by_cases e2 : lo ≤ pV s ∧ pV s ≤ hi
      · have hx : lkN lo hi s = s := by unfold lkN; rw [if_pos e1, if_pos e2]
        rw [hx] at tl
        simp (disch := (first | assumption | omega | exact Nat.le_of_ble_eq_true rfl | rfl)) only [w47_0, w47_1, w47_4, w47_5, w47_8, w47_9, w47_10, w47_13, w47_16, w47_17, w47_20, w47_21, w47_24, w47_25, w47_28, w47_29, w47_32, w47_33, w47_34, Ko_n, Ko_v, vX_i, vX_r, vX_l, vX_j, reduceIte, g3, e1', g6, show ¬ pV s < lo by omega, show pV s ≤ hi by omega]
        exact tl σ hR' fR_r
      · have hx : lkN lo hi s = blm 3 s := by unfold lkN; rw [if_pos e1, if_neg e2]
        rw [hx] at tl
        by_cases e3 : pV s < lo
        · simp (disch := (first | assumption | omega | exact Nat.le_of_ble_eq_true rfl | rfl)) only [w47_0, w47_1, w47_4, w47_5, w47_8, w47_9, w47_10, w47_13, w47_16, w47_17, w47_20, w47_21, w47_24, w47_25, w47_28, w47_29, w47_32, w47_33, w47_34, Ko_n, Ko_v, vX_i, vX_r, vX_l, vX_j, reduceIte, g3, e1', g6, e3]
          refine c39 hR' hs (by omega) fun τ h1 h2 => ?_
          simp (disch := (first | assumption | omega | exact Nat.le_of_ble_eq_true rfl | rfl)) only [w47_0, w47_1, w47_4, w47_5, w47_8, w47_9, w47_10, w47_13, w47_16, w47_17, w47_20, w47_21, w47_24, w47_25, w47_28, w47_29, w47_32, w47_33, w47_34, Ko_n, Ko_v, vX_i, vX_r, vX_l, vX_j, reduceIte]
          exact tl τ h1 h2
        · simp (disch := (first | assumption | omega | exact Nat.le_of_ble_eq_true rfl | rfl)) only [w47_0, w47_1, w47_4, w47_5, w47_8, w47_9, w47_10, w47_13, w47_16, w47_17, w47_20, w47_21, w47_24, w47_25, w47_28, w47_29, w47_32, w47_33, w47_34, Ko_n, Ko_v, vX_i, vX_r, vX_l, vX_j, reduceIte, g3, e1', g6, e3, show ¬ pV s ≤ hi by omega]
          refine c39 hR' hs (by omega) fun τ h1 h2 => ?_
          simp (disch := (first | assumption | omega | exact Nat.le_of_ble_eq_true rfl | rfl)) only [w47_0, w47_1, w47_4, w47_5, w47_8, w47_9, w47_10, w47_13, w47_16, w47_17, w47_20, w47_21, w47_24, w47_25, w47_28, w47_29, w47_32, w47_33, w47_34, Ko_n, Ko_v, vX_i, vX_r, vX_l, vX_j, reduceIte]
          exact tl τ h1 h2
    · have e1' : ¬ soP s = 2 := fun w => e1 (flt_i2.mp w)
      have hx : lkN lo hi s = blm 2 s := by unfold lkN; rw [if_neg e1]
      rw [hx] at tl
      rw [g3] at a4
      simp (disch := (first | assumption | omega | exact Nat.le_of_ble_eq_true rfl | rfl)) only [w47_0, w47_1, w47_4, w47_5, w47_8, w47_9, w47_10, w47_13, w47_16, w47_17, w47_20, w47_21, w47_24, w47_25, w47_28, w47_29, w47_32, w47_33, w47_34, Ko_n, Ko_v, vX_i, vX_r, vX_l, vX_j, reduceIte, g3, e1']
      refine c39 hR' hs (by omega) fun τ h1 h2 => ?_
      simp (disch := (first | assumption | omega | exact Nat.le_of_ble_eq_true rfl | rfl)) only [w47_0, w47_1, w47_4, w47_5, w47_8, w47_9, w47_10, w47_13, w47_16, w47_17, w47_20, w47_21, w47_24, w47_25, w47_28, w47_29, w47_32, w47_33, w47_34, Ko_n, Ko_v, vX_i, vX_r, vX_l, vX_j, reduceIte]
      exact tl τ h1 h2
  · have key : flt (lkN lo hi s) = flt s ∧ fpl (lkN lo hi s) = fpl s := by
      unfold lkN
      have b2 := flt_bl (k := 2) hs (by omega)
      have b3 := flt_bl (k := 3) hs (by omega)
      rw [if_neg e, if_neg e] at b2 b3
      split
      · split
        · exact ⟨rfl, rfl⟩
        · exact b3
      · exact b2
    have stay : ∀ u : Int, 1 ≤ u → ∀ Q', (Q' (.inl none) (E T σ)) → Ca d 1 39 [.ref 75, .int (i32 u)] (E T σ) Q' := by
      intro u u0 Q' hq
      rw [n39 _ _ _ _ _ _ _ h0]
      simp (disch := (first | assumption | omega | exact Nat.le_of_ble_eq_true rfl | rfl)) only [w39_0, w39_1, w39_4, w39_7, w39_8, w39_9, w39_12, w39_13, w39_14, w39_17, w39_20, Ko_n, Ko_v, vX_i, vX_r, vX_l, vX_j, reduceIte, a6, e, not_false_eq_true]
      exact hq
    have tl2 := tl σ (Rc_f hR' e key.1 key.2) fR_r
    by_cases e1 : σ 509 75 0 = 2
    · by_cases e2 : σ 510 75 0 < lo
      · simp (disch := (first | assumption | omega | exact Nat.le_of_ble_eq_true rfl | rfl)) only [w47_0, w47_1, w47_4, w47_5, w47_8, w47_9, w47_10, w47_13, w47_16, w47_17, w47_20, w47_21, w47_24, w47_25, w47_28, w47_29, w47_32, w47_33, w47_34, Ko_n, Ko_v, vX_i, vX_r, vX_l, vX_j, reduceIte, e1, e2]
        refine stay 3 (by omega) _ ?_
        simp (disch := (first | assumption | omega | exact Nat.le_of_ble_eq_true rfl | rfl)) only [w47_0, w47_1, w47_4, w47_5, w47_8, w47_9, w47_10, w47_13, w47_16, w47_17, w47_20, w47_21, w47_24, w47_25, w47_28, w47_29, w47_32, w47_33, w47_34, Ko_n, Ko_v, vX_i, vX_r, vX_l, vX_j, reduceIte]
        exact tl2
      · by_cases e3 : σ 510 75 0 ≤ hi
        · simp (disch := (first | assumption | omega | exact Nat.le_of_ble_eq_true rfl | rfl)) only [w47_0, w47_1, w47_4, w47_5, w47_8, w47_9, w47_10, w47_13, w47_16, w47_17, w47_20, w47_21, w47_24, w47_25, w47_28, w47_29, w47_32, w47_33, w47_34, Ko_n, Ko_v, vX_i, vX_r, vX_l, vX_j, reduceIte, e1, e2, e3]
          exact tl2
        · simp (disch := (first | assumption | omega | exact Nat.le_of_ble_eq_true rfl | rfl)) only [w47_0, w47_1, w47_4, w47_5, w47_8, w47_9, w47_10, w47_13, w47_16, w47_17, w47_20, w47_21, w47_24, w47_25, w47_28, w47_29, w47_32, w47_33, w47_34, Ko_n, Ko_v, vX_i, vX_r, vX_l, vX_j, reduceIte, e1, e2, e3]
          refine stay 3 (by omega) _ ?_
          simp (disch := (first | assumption | omega | exact Nat.le_of_ble_eq_true rfl | rfl)) only [w47_0, w47_1, w47_4, w47_5, w47_8, w47_9, w47_10, w47_13, w47_16, w47_17, w47_20, w47_21, w47_24, w47_25, w47_28, w47_29, w47_32, w47_33, w47_34, Ko_n, Ko_v, vX_i, vX_r, vX_l, vX_j, reduceIte]
          exact tl2
    · simp (disch := (first | assumption | omega | exact Nat.le_of_ble_eq_true rfl | rfl)) only [w47_0, w47_1, w47_4, w47_5, w47_8, w47_9, w47_10, w47_13, w47_16, w47_17, w47_20, w47_21, w47_24, w47_25, w47_28, w47_29, w47_32, w47_33, w47_34, Ko_n, Ko_v, vX_i, vX_r, vX_l, vX_j, reduceIte, e1]
      refine stay 2 (by omega) _ ?_
      simp (disch := (first | assumption | omega | exact Nat.le_of_ble_eq_true rfl | rfl)) only [w47_0, w47_1, w47_4, w47_5, w47_8, w47_9, w47_10, w47_13, w47_16, w47_17, w47_20, w47_21, w47_24, w47_25, w47_28, w47_29, w47_32, w47_33, w47_34, Ko_n, Ko_v, vX_i, vX_r, vX_l, vX_j, reduceIte]
      exact tl2
theorem c48 {d : Nat} {k lo hi n : Int} {f : Int → Int} {T : Tt} {σ : St} {s : Ps} {Q : vmO → vmH → Prop} (hR : Rc f n σ s) (hf : tpOk f n) (hs : pO n s) (l0 : -1000 ≤ lo) (l1 : lo ≤ 1000) (m0 : -1000 ≤ hi) (m1 : hi ≤ 1000) (hQ : ∀ τ v, Rc f n τ (nmb f n lo hi s).2 → fR σ τ → (0 ≤ v ∧ v ≤ 999) → (flt (nmb f n lo hi s).2 = 0 → v = (nmb f n lo hi s).1) → Q (.inl (some (.int (i32 v)))) (E T τ)) : Ca (d + 5) k 48 [.ref 75, .int (i32 lo), .int (i32 hi)] (E T σ) Q := by
  have h0 := ob_rd
  have hO := lkN_O (lo := lo) (hi := hi) hs
  have hfi2 := flt_in hO
  have hv := hs.2.2.2.1
  rw [n48 _ _ _ _ _ _ _ _ h0]
  simp (disch := (first | assumption | omega | exact Nat.le_of_ble_eq_true rfl | rfl)) only [w48_0, w48_1, w48_2, w48_3, w48_6, w48_7, w48_8, w48_11, w48_14, w48_15, w48_18, w48_19, Ko_n, Ko_v, vX_i, vX_r, vX_l, vX_j, reduceIte]
  refine c47 hR hs l0 l1 m0 m1 fun τ h1 h2 => ?_
  unfold nmb rdO at hQ
  by_cases e : pB (lkN lo hi s) = 0
  · have e3 := (lkN_f hs).mpr e
    rw [if_pos e] at hQ ⊢
    simp (disch := (first | assumption | omega | exact Nat.le_of_ble_eq_true rfl | rfl)) only [w48_0, w48_1, w48_2, w48_3, w48_6, w48_7, w48_8, w48_11, w48_14, w48_15, w48_18, w48_19, Ko_n, Ko_v, vX_i, vX_r, vX_l, vX_j, reduceIte, h1.2.2.2.2.2.1, e3, not_true]
    refine c40 h1 hf hO e3 fun ρ h3 h4 => ?_
    simp (disch := (first | assumption | omega | exact Nat.le_of_ble_eq_true rfl | rfl)) only [w48_0, w48_1, w48_2, w48_3, w48_6, w48_7, w48_8, w48_11, w48_14, w48_15, w48_18, w48_19, Ko_n, Ko_v, vX_i, vX_r, vX_l, vX_j, reduceIte]
    exact hQ ρ _ (by rw [if_pos e]; exact h3) (fR_t h2 h4) hv (fun _ => rfl)
  · have e3 : ¬ flt (lkN lo hi s) = 0 := fun w => e ((lkN_f hs).mp w)
    rw [if_neg e] at hQ ⊢
    simp (disch := (first | assumption | omega | exact Nat.le_of_ble_eq_true rfl | rfl)) only [w48_0, w48_1, w48_2, w48_3, w48_6, w48_7, w48_8, w48_11, w48_14, w48_15, w48_18, w48_19, Ko_n, Ko_v, vX_i, vX_r, vX_l, vX_j, reduceIte, h1.2.2.2.2.2.1, e3, not_false_eq_true]
    exact hQ τ 0 (by rw [if_neg e]; exact h1) h2 (by omega) (fun w => by rw [if_neg e] at w; exact absurd w e3)
