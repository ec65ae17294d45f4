/-! ===== the reference's reader: words, signs, numbers ===== -/
theorem wdm_f {f : Int → Int} {g : Int} {i k : Nat} (h : f (g + k) ≠ tb i k) : ∀ m : Nat, wdm f g i (k + 1 + m) = false
  | 0 => by
    show (wdm f g i k && decide (f (g + k) = tb i k)) = false
    rw [decide_eq_false h, Bool.and_false]
  | m + 1 => by
    show (wdm f g i (k + 1 + m) && _) = false
    rw [wdm_f h m]; rfl
theorem c186 {d i : Nat} {k n : Int} {f : Int → Int} {T : Tt} {σ : St} {s : Ps} {Q : vmO → vmH → Prop} (hF : σ 1205 382 = f) (hf : tpOk f n) (hs : pO n s) (hi : i < 22) : Ca (d + 4) k 186 [.ref 382, .ref (1000000 + 2 * i)] (E T (pS σ s)) Q = Q (.inl (some (.int (i32 (if isWd f i s then 1 else 0))))) (E T (pS σ s)) := by
  have h0 := ob_md
  have hn9 := hf.2
  obtain ⟨h1, h2, h3, h4, h5, h6⟩ := hs
  have hl := (tb_ok i hi).1
  have hl2 := (tb_ok i hi).2.1
  rw [n186 _ _ _ _ _ _ _ h0]
  have done : ∀ l3 : Value, Wp (d + 4) M_X12_isWord 39 [.ref 382, .ref (1000000 + 2 * i), .int (i32 0), l3] [] (E T (pS σ s)) Q = Q (.inl (some (.int (i32 0)))) (E T (pS σ s)) := by
    intro l3
    rw [w186_39]
    simp (disch := (first | assumption | omega | exact Nat.le_of_ble_eq_true rfl | rfl)) only [w186_0, w186_1, w186_4, w186_7, w186_8, w186_11, w186_12, w186_15, w186_16, w186_19, w186_20, w186_23, w186_24, w186_25, w186_28, w186_31, w186_32, w186_35, w186_36, w186_37, w186_38, w186_40, w186_43, w186_44, w186_45, w186_48, w186_51, w186_52, w186_55, w186_56, w186_59, w186_60, w186_61, w186_62, w186_63, w186_64, w186_67, w186_70, w186_71, w186_74, w186_75, w186_76, w186_79, w186_82, w186_83, Ko_n, Ko_v, vX_i, vX_r, vX_l, vX_j, reduceIte]
  by_cases e : pB s = 0 ∧ pT s = 1 ∧ pH s - pG s = (vmByt i).length
  · have hw : isWd f i s = wdm f (pG s) i (vmByt i).length := by unfold isWd; rw [decide_eq_true e, Bool.true_and]
    rw [hw]
    have loop : ∀ (m j : Nat), j + m = (vmByt i).length → wdm f (pG s) i j = true → Wp (d + 4) M_X12_isWord 39 [.ref 382, .ref (1000000 + 2 * i), .int (i32 1), .int (i32 j)] [] (E T (pS σ s)) Q = Q (.inl (some (.int (i32 (if wdm f (pG s) i (vmByt i).length then 1 else 0))))) (E T (pS σ s)) := by
      intro m
      induction m with
      | zero =>
        intro j hj hw
        have hj : j = (vmByt i).length := by omega
        subst hj
        rw [w186_39, if_pos hw]
        simp (disch := (first | assumption | omega | exact Nat.le_of_ble_eq_true rfl | rfl)) only [w186_0, w186_1, w186_4, w186_7, w186_8, w186_11, w186_12, w186_15, w186_16, w186_19, w186_20, w186_23, w186_24, w186_25, w186_28, w186_31, w186_32, w186_35, w186_36, w186_37, w186_38, w186_40, w186_43, w186_44, w186_45, w186_48, w186_51, w186_52, w186_55, w186_56, w186_59, w186_60, w186_61, w186_62, w186_63, w186_64, w186_67, w186_70, w186_71, w186_74, w186_75, w186_76, w186_79, w186_82, w186_83, Ko_n, Ko_v, vX_i, vX_r, vX_l, vX_j, reduceIte, Int.reduceEq, c308 hi, Int.le_refl]
      | succ m ih =>
        intro j hj hw
        have hb := tb_in hi j
        have hfb := hf.1 (pG s + j) (by omega) (by omega)
        rw [w186_39]
        simp (disch := (first | assumption | omega | exact Nat.le_of_ble_eq_true rfl | rfl)) only [w186_0, w186_1, w186_4, w186_7, w186_8, w186_11, w186_12, w186_15, w186_16, w186_19, w186_20, w186_23, w186_24, w186_25, w186_28, w186_31, w186_32, w186_35, w186_36, w186_37, w186_38, w186_40, w186_43, w186_44, w186_45, w186_48, w186_51, w186_52, w186_55, w186_56, w186_59, w186_60, w186_61, w186_62, w186_63, w186_64, w186_67, w186_70, w186_71, w186_74, w186_75, w186_76, w186_79, w186_82, w186_83, Ko_n, Ko_v, vX_i, vX_r, vX_l, vX_j, reduceIte, Int.reduceEq, c308 hi, show ¬ ((vmByt i).length : Int) ≤ (j : Int) by omega, pS_f, pS_G, hF]
        rw [c309 hi (by omega) (by omega)]
        by_cases e2 : f (pG s + j) = tb i j
        · have ih' := ih (j + 1) (by omega) (by
            show (wdm f (pG s) i j && decide (f (pG s + j) = tb i j)) = true
            rw [hw, decide_eq_true e2]; rfl)
          simp (disch := (first | assumption | omega | exact Nat.le_of_ble_eq_true rfl | rfl)) only [w186_0, w186_1, w186_4, w186_7, w186_8, w186_11, w186_12, w186_15, w186_16, w186_19, w186_20, w186_23, w186_24, w186_25, w186_28, w186_31, w186_32, w186_35, w186_36, w186_37, w186_38, w186_40, w186_43, w186_44, w186_45, w186_48, w186_51, w186_52, w186_55, w186_56, w186_59, w186_60, w186_61, w186_62, w186_63, w186_64, w186_67, w186_70, w186_71, w186_74, w186_75, w186_76, w186_79, w186_82, w186_83, Ko_n, Ko_v, vX_i, vX_r, vX_l, vX_j, reduceIte, e2, not_true]
          exact ih'
        · have hx := wdm_f e2 m
          rw [show j + 1 + m = (vmByt i).length by omega] at hx
          simp (disch := (first | assumption | omega | exact Nat.le_of_ble_eq_true rfl | rfl)) only [w186_0, w186_1, w186_4, w186_7, w186_8, w186_11, w186_12, w186_15, w186_16, w186_19, w186_20, w186_23, w186_24, w186_25, w186_28, w186_31, w186_32, w186_35, w186_36, w186_37, w186_38, w186_40, w186_43, w186_44, w186_45, w186_48, w186_51, w186_52, w186_55, w186_56, w186_59, w186_60, w186_61, w186_62, w186_63, w186_64, w186_67, w186_70, w186_71, w186_74, w186_75, w186_76, w186_79, w186_82, w186_83, Ko_n, Ko_v, vX_i, vX_r, vX_l, vX_j, reduceIte, e2, not_false_eq_true]
          rw [done, hx]
          rfl
    obtain ⟨e1, e2, e3⟩ := e
    simp (disch := (first | assumption | omega | exact Nat.le_of_ble_eq_true rfl | rfl)) only [w186_0, w186_1, w186_4, w186_7, w186_8, w186_11, w186_12, w186_15, w186_16, w186_19, w186_20, w186_23, w186_24, w186_25, w186_28, w186_31, w186_32, w186_35, w186_36, w186_37, w186_38, w186_40, w186_43, w186_44, w186_45, w186_48, w186_51, w186_52, w186_55, w186_56, w186_59, w186_60, w186_61, w186_62, w186_63, w186_64, w186_67, w186_70, w186_71, w186_74, w186_75, w186_76, w186_79, w186_82, w186_83, Ko_n, Ko_v, vX_i, vX_r, vX_l, vX_j, reduceIte, pS_B, pS_T, pS_H, pS_G, e1, e2, e3, not_true, c308 hi]
    exact loop (vmByt i).length 0 (by omega) rfl
  · have hw : isWd f i s = false := by unfold isWd; rw [decide_eq_false e, Bool.false_and]
    rw [hw]
    simp only [Bool.false_eq_true, if_false]
    by_cases e1 : pB s = 0
    · by_cases e2 : pT s = 1
      · by_cases e3 : pH s - pG s = (vmByt i).length
        · exact absurd ⟨e1, e2, e3⟩ e
        · simp (disch := (first | assumption | omega | exact Nat.le_of_ble_eq_true rfl | rfl)) only [w186_0, w186_1, w186_4, w186_7, w186_8, w186_11, w186_12, w186_15, w186_16, w186_19, w186_20, w186_23, w186_24, w186_25, w186_28, w186_31, w186_32, w186_35, w186_36, w186_37, w186_38, w186_40, w186_43, w186_44, w186_45, w186_48, w186_51, w186_52, w186_55, w186_56, w186_59, w186_60, w186_61, w186_62, w186_63, w186_64, w186_67, w186_70, w186_71, w186_74, w186_75, w186_76, w186_79, w186_82, w186_83, Ko_n, Ko_v, vX_i, vX_r, vX_l, vX_j, reduceIte, pS_B, pS_T, pS_H, pS_G, e1, e2, e3, not_true, not_false_eq_true, c308 hi]
          rw [done]
      · simp (disch := (first | assumption | omega | exact Nat.le_of_ble_eq_true rfl | rfl)) only [w186_0, w186_1, w186_4, w186_7, w186_8, w186_11, w186_12, w186_15, w186_16, w186_19, w186_20, w186_23, w186_24, w186_25, w186_28, w186_31, w186_32, w186_35, w186_36, w186_37, w186_38, w186_40, w186_43, w186_44, w186_45, w186_48, w186_51, w186_52, w186_55, w186_56, w186_59, w186_60, w186_61, w186_62, w186_63, w186_64, w186_67, w186_70, w186_71, w186_74, w186_75, w186_76, w186_79, w186_82, w186_83, Ko_n, Ko_v, vX_i, vX_r, vX_l, vX_j, reduceIte, pS_B, pS_T, e1, e2, not_true, not_false_eq_true]
        rw [done]
    · simp (disch := (first | assumption | omega | exact Nat.le_of_ble_eq_true rfl | rfl)) only [w186_0, w186_1, w186_4, w186_7, w186_8, w186_11, w186_12, w186_15, w186_16, w186_19, w186_20, w186_23, w186_24, w186_25, w186_28, w186_31, w186_32, w186_35, w186_36, w186_37, w186_38, w186_40, w186_43, w186_44, w186_45, w186_48, w186_51, w186_52, w186_55, w186_56, w186_59, w186_60, w186_61, w186_62, w186_63, w186_64, w186_67, w186_70, w186_71, w186_74, w186_75, w186_76, w186_79, w186_82, w186_83, Ko_n, Ko_v, vX_i, vX_r, vX_l, vX_j, reduceIte, pS_B, e1, not_false_eq_true]
      rw [done]
/-- a word is taken, if it is there -/
def tkW (f : Int → Int) (n : Int) (i : Nat) (s : Ps) : Ps := if isWd f i s then rdOn f n s else s
theorem tkW_O {f : Int → Int} {n : Int} {i : Nat} {s : Ps} (hf : tpOk f n) (h : pO n s) : pO n (tkW f n i s) := by
  unfold tkW
  split
  · exact (rdOn_O hf h).1
  · exact h
theorem c187 {d i : Nat} {k n : Int} {f : Int → Int} {T : Tt} {σ : St} {s : Ps} {Q : vmO → vmH → Prop} (hF : σ 1205 382 = f) (hn : σ 1207 382 0 = n) (hf : tpOk f n) (hs : pO n s) (hi : i < 22) : Ca (d + 5) k 187 [.ref 382, .ref (1000000 + 2 * i)] (E T (pS σ s)) Q = Q (.inl (some (.int (i32 (if isWd f i s then 1 else 0))))) (E T (pS σ (tkW f n i s))) := by
  have h0 := ob_md
  rw [n187 _ _ _ _ _ _ _ h0]
  simp (disch := (first | assumption | omega | exact Nat.le_of_ble_eq_true rfl | rfl)) only [w187_0, w187_1, w187_2, w187_5, w187_6, w187_7, w187_10, w187_11, w187_14, w187_15, Ko_n, Ko_v, vX_i, vX_r, vX_l, vX_j, reduceIte]
  rw [c186 hF hf hs hi]
  unfold tkW
  cases e : isWd f i s with
  | true =>
    simp (disch := (first | assumption | omega | exact Nat.le_of_ble_eq_true rfl | rfl)) only [w187_0, w187_1, w187_2, w187_5, w187_6, w187_7, w187_10, w187_11, w187_14, w187_15, Ko_n, Ko_v, vX_i, vX_r, vX_l, vX_j, reduceIte, Int.reduceEq]
    rw [c184 hF hn hf hs]
    simp (disch := (first | assumption | omega | exact Nat.le_of_ble_eq_true rfl | rfl)) only [w187_0, w187_1, w187_2, w187_5, w187_6, w187_7, w187_10, w187_11, w187_14, w187_15, Ko_n, Ko_v, vX_i, vX_r, vX_l, vX_j, reduceIte]
  | false =>
    simp (disch := (first | assumption | omega | exact Nat.le_of_ble_eq_true rfl | rfl)) only [w187_0, w187_1, w187_2, w187_5, w187_6, w187_7, w187_10, w187_11, w187_14, w187_15, Ko_n, Ko_v, vX_i, vX_r, vX_l, vX_j, reduceIte, Bool.false_eq_true]
theorem c188 {d : Nat} {k c n : Int} {T : Tt} {σ : St} {s : Ps} {Q : vmO → vmH → Prop} (hs : pO n s) (c0 : 0 ≤ c) (c1 : c ≤ 255) : Ca d k 188 [.ref 382, .int (i32 c)] (E T (pS σ s)) Q = Q (.inl (some (.int (i32 (if isSg c s then 1 else 0))))) (E T (pS σ s)) := by
  have h0 := ob_md
  obtain ⟨h1, h2, h3, h4, h5, h6⟩ := hs
  rw [n188 _ _ _ _ _ _ _ h0]
  unfold isSg
  by_cases e1 : pB s = 0
  · by_cases e2 : pT s = c
    · rw [if_pos (decide_eq_true ⟨e1, e2⟩)]
      simp (disch := (first | assumption | omega | exact Nat.le_of_ble_eq_true rfl | rfl)) only [w188_0, w188_1, w188_4, w188_7, w188_8, w188_11, w188_12, w188_15, w188_16, w188_19, w188_20, Ko_n, Ko_v, vX_i, vX_r, vX_l, vX_j, reduceIte, pS_B, pS_T, e1, e2, not_true]
    · rw [if_neg (by rw [decide_eq_true_eq]; exact fun w => e2 w.2)]
      simp (disch := (first | assumption | omega | exact Nat.le_of_ble_eq_true rfl | rfl)) only [w188_0, w188_1, w188_4, w188_7, w188_8, w188_11, w188_12, w188_15, w188_16, w188_19, w188_20, Ko_n, Ko_v, vX_i, vX_r, vX_l, vX_j, reduceIte, pS_B, pS_T, e1, e2, not_true, not_false_eq_true]
  · rw [if_neg (by rw [decide_eq_true_eq]; exact fun w => e1 w.1)]
    simp (disch := (first | assumption | omega | exact Nat.le_of_ble_eq_true rfl | rfl)) only [w188_0, w188_1, w188_4, w188_7, w188_8, w188_11, w188_12, w188_15, w188_16, w188_19, w188_20, Ko_n, Ko_v, vX_i, vX_r, vX_l, vX_j, reduceIte, pS_B, e1, not_false_eq_true]
theorem muS_O {f : Int → Int} {n c : Int} {s : Ps} (hf : tpOk f n) (h : pO n s) : pO n (muS f n c s) := by
  unfold muS
  refine rdO_O hf ?_
  split
  · exact h
  · exact (blm_O h (by omega) (by omega)).1
theorem c189 {d : Nat} {k c n : Int} {f : Int → Int} {T : Tt} {σ : St} {s : Ps} {Q : vmO → vmH → Prop} (hF : σ 1205 382 = f) (hn : σ 1207 382 0 = n) (hf : tpOk f n) (hs : pO n s) (c0 : 0 ≤ c) (c1 : c ≤ 255) : Ca (d + 3) k 189 [.ref 382, .int (i32 c)] (E T (pS σ s)) Q = Q (.inl none) (E T (pS σ (muS f n c s))) := by
  have h0 := ob_md
  have h1 := hs.1
  have h2 := hs.2.1
  rw [n189 _ _ _ _ _ _ _ h0]
  unfold muS rdO
  by_cases e : pT s = c
  · rw [if_pos e]
    by_cases e2 : pB s = 0
    · rw [if_pos e2]
      simp (disch := (first | assumption | omega | exact Nat.le_of_ble_eq_true rfl | rfl)) only [w189_0, w189_1, w189_4, w189_5, w189_8, w189_9, w189_10, w189_13, w189_14, w189_17, w189_20, w189_21, w189_24, Ko_n, Ko_v, vX_i, vX_r, vX_l, vX_j, reduceIte, pS_T, pS_B, e, e2, not_true]
      rw [c184 hF hn hf hs]
      simp (disch := (first | assumption | omega | exact Nat.le_of_ble_eq_true rfl | rfl)) only [w189_0, w189_1, w189_4, w189_5, w189_8, w189_9, w189_10, w189_13, w189_14, w189_17, w189_20, w189_21, w189_24, Ko_n, Ko_v, vX_i, vX_r, vX_l, vX_j, reduceIte]
    · rw [if_neg e2]
      simp (disch := (first | assumption | omega | exact Nat.le_of_ble_eq_true rfl | rfl)) only [w189_0, w189_1, w189_4, w189_5, w189_8, w189_9, w189_10, w189_13, w189_14, w189_17, w189_20, w189_21, w189_24, Ko_n, Ko_v, vX_i, vX_r, vX_l, vX_j, reduceIte, pS_T, pS_B, e, e2, not_false_eq_true]
  · rw [if_neg e]
    have hb := blm_O hs (k := 2) (by omega) (by omega)
    have hb1 := hb.1.1
    rw [if_neg hb.2]
    simp (disch := (first | assumption | omega | exact Nat.le_of_ble_eq_true rfl | rfl)) only [w189_0, w189_1, w189_4, w189_5, w189_8, w189_9, w189_10, w189_13, w189_14, w189_17, w189_20, w189_21, w189_24, Ko_n, Ko_v, vX_i, vX_r, vX_l, vX_j, reduceIte, pS_T, e]
    rw [c185 hs]
    simp (disch := (first | assumption | omega | exact Nat.le_of_ble_eq_true rfl | rfl)) only [w189_0, w189_1, w189_4, w189_5, w189_8, w189_9, w189_10, w189_13, w189_14, w189_17, w189_20, w189_21, w189_24, Ko_n, Ko_v, vX_i, vX_r, vX_l, vX_j, reduceIte, pS_B, hb.2, not_false_eq_true]
theorem lkN_O {n lo hi : Int} {s : Ps} (h : pO n s) : pO n (lkN lo hi s) := by
  unfold lkN
  split
  · split
    · exact h
    · exact (blm_O h (by omega) (by omega)).1
  · exact (blm_O h (by omega) (by omega)).1
theorem nmb_O {f : Int → Int} {n lo hi : Int} {s : Ps} (hf : tpOk f n) (h : pO n s) : pO n (nmb f n lo hi s).2 := rdO_O hf (lkN_O h)
theorem lkN_V {lo hi : Int} {s : Ps} : pV (lkN lo hi s) = pV s := by
  unfold lkN blm
  repeat' split
  all_goals rfl
theorem rdO_B {f : Int → Int} {n : Int} {s : Ps} : pB (rdO f n s) = pB s := by
  unfold rdO
  split <;> rfl
theorem c190 {d : Nat} {k lo hi n : Int} {f : Int → Int} {T : Tt} {σ : St} {s : Ps} {Q : vmO → vmH → Prop} (hF : σ 1205 382 = f) (hn : σ 1207 382 0 = n) (hf : tpOk f n) (hs : pO n s) (l0 : -1000 ≤ lo) (l1 : lo ≤ 1000) (m0 : -1000 ≤ hi) (m1 : hi ≤ 1000) : Ca (d + 3) k 190 [.ref 382, .int (i32 lo), .int (i32 hi)] (E T (pS σ s)) Q = Q (.inl (some (.int (i32 (nmb f n lo hi s).1)))) (E T (pS σ (nmb f n lo hi s).2)) := by
  have h0 := ob_md
  have h1 := hs.1
  have h2 := hs.2.1
  have h4 := hs.2.2.2.1
  have hO := lkN_O (lo := lo) (hi := hi) hs
  have hV := lkN_V (lo := lo) (hi := hi) (s := s)
  have hO1 := hO.1
  have hO4 := hO.2.2.2.1
  have tail : Wp (d + 3) M_X12_number 36 [.ref 382, .int (i32 lo), .int (i32 hi), vmJ] [] (E T (pS σ (lkN lo hi s))) Q = Q (.inl (some (.int (i32 (nmb f n lo hi s).1)))) (E T (pS σ (nmb f n lo hi s).2)) := by
    unfold nmb rdO
    rw [hV] at hO4
    by_cases e : pB (lkN lo hi s) = 0
    · rw [if_pos e, if_pos e]
      simp (disch := (first | assumption | omega | exact Nat.le_of_ble_eq_true rfl | rfl)) only [w190_0, w190_1, w190_4, w190_5, w190_8, w190_9, w190_10, w190_13, w190_16, w190_17, w190_20, w190_21, w190_22, w190_23, w190_24, w190_25, w190_28, w190_31, w190_32, w190_33, w190_36, w190_37, w190_40, w190_41, w190_42, w190_45, w190_48, w190_49, w190_52, w190_53, w190_56, w190_59, w190_60, w190_63, w190_64, Ko_n, Ko_v, vX_i, vX_r, vX_l, vX_j, reduceIte, pS_V, pS_B, hV, e, not_true]
      rw [c184 hF hn hf hO]
      simp (disch := (first | assumption | omega | exact Nat.le_of_ble_eq_true rfl | rfl)) only [w190_0, w190_1, w190_4, w190_5, w190_8, w190_9, w190_10, w190_13, w190_16, w190_17, w190_20, w190_21, w190_22, w190_23, w190_24, w190_25, w190_28, w190_31, w190_32, w190_33, w190_36, w190_37, w190_40, w190_41, w190_42, w190_45, w190_48, w190_49, w190_52, w190_53, w190_56, w190_59, w190_60, w190_63, w190_64, Ko_n, Ko_v, vX_i, vX_r, vX_l, vX_j, reduceIte, pS_B, show pB (rdOn f n (lkN lo hi s)) = 0 from e, not_true]
    · rw [if_neg e, if_neg e]
      simp (disch := (first | assumption | omega | exact Nat.le_of_ble_eq_true rfl | rfl)) only [w190_0, w190_1, w190_4, w190_5, w190_8, w190_9, w190_10, w190_13, w190_16, w190_17, w190_20, w190_21, w190_22, w190_23, w190_24, w190_25, w190_28, w190_31, w190_32, w190_33, w190_36, w190_37, w190_40, w190_41, w190_42, w190_45, w190_48, w190_49, w190_52, w190_53, w190_56, w190_59, w190_60, w190_63, w190_64, Ko_n, Ko_v, vX_i, vX_r, vX_l, vX_j, reduceIte, pS_V, pS_B, hV, e, not_false_eq_true]
  rw [n190 _ _ _ _ _ _ _ _ h0]
  unfold lkN at tail
  by_cases e : pT s = 2
  · rw [if_pos e] at tail
    simp (disch := (first | assumption | omega | exact Nat.le_of_ble_eq_true rfl | rfl)) only [w190_0, w190_1, w190_4, w190_5, w190_8, w190_9, w190_10, w190_13, w190_16, w190_17, w190_20, w190_21, w190_22, w190_23, w190_24, w190_25, w190_28, w190_31, w190_32, w190_33, Ko_n, Ko_v, vX_i, vX_r, vX_l, vX_j, reduceIte, pS_T, pS_V, e]
    rw [c176 (by omega) (by omega) (by omega) (by omega) (by omega) (by omega) (by omega)]
    by_cases e2 : lo ≤ pV s ∧ pV s ≤ hi
    · rw [if_pos e2] at tail
      rw [if_pos e2]
      simp (disch := (first | assumption | omega | exact Nat.le_of_ble_eq_true rfl | rfl)) only [w190_0, w190_1, w190_4, w190_5, w190_8, w190_9, w190_10, w190_13, w190_16, w190_17, w190_20, w190_21, w190_22, w190_23, w190_24, w190_25, w190_28, w190_31, w190_32, w190_33, Ko_n, Ko_v, vX_i, vX_r, vX_l, vX_j, reduceIte, Int.reduceEq, not_false_eq_true]
      exact tail
    · rw [if_neg e2] at tail
      rw [if_neg e2]
      simp (disch := (first | assumption | omega | exact Nat.le_of_ble_eq_true rfl | rfl)) only [w190_0, w190_1, w190_4, w190_5, w190_8, w190_9, w190_10, w190_13, w190_16, w190_17, w190_20, w190_21, w190_22, w190_23, w190_24, w190_25, w190_28, w190_31, w190_32, w190_33, Ko_n, Ko_v, vX_i, vX_r, vX_l, vX_j, reduceIte, Int.reduceEq, not_true]
      rw [c185 hs]
      simp (disch := (first | assumption | omega | exact Nat.le_of_ble_eq_true rfl | rfl)) only [w190_0, w190_1, w190_4, w190_5, w190_8, w190_9, w190_10, w190_13, w190_16, w190_17, w190_20, w190_21, w190_22, w190_23, w190_24, w190_25, w190_28, w190_31, w190_32, w190_33, Ko_n, Ko_v, vX_i, vX_r, vX_l, vX_j, reduceIte]
      exact tail
  · rw [if_neg e] at tail
    simp (disch := (first | assumption | omega | exact Nat.le_of_ble_eq_true rfl | rfl)) only [w190_0, w190_1, w190_4, w190_5, w190_8, w190_9, w190_10, w190_13, w190_16, w190_17, w190_20, w190_21, w190_22, w190_23, w190_24, w190_25, w190_28, w190_31, w190_32, w190_33, Ko_n, Ko_v, vX_i, vX_r, vX_l, vX_j, reduceIte, pS_T, e]
    rw [c185 hs]
    simp (disch := (first | assumption | omega | exact Nat.le_of_ble_eq_true rfl | rfl)) only [w190_0, w190_1, w190_4, w190_5, w190_8, w190_9, w190_10, w190_13, w190_16, w190_17, w190_20, w190_21, w190_22, w190_23, w190_24, w190_25, w190_28, w190_31, w190_32, w190_33, Ko_n, Ko_v, vX_i, vX_r, vX_l, vX_j, reduceIte]
    exact tail
theorem c191 {d i : Nat} {k n : Int} {f : Int → Int} {T : Tt} {σ : St} {s : Ps} {Q : vmO → vmH → Prop} (hF : σ 1205 382 = f) (hn : σ 1207 382 0 = n) (hf : tpOk f n) (hs : pO n s) (hi : i < 22) : Ca (d + 6) k 191 [.ref 382, .ref (1000000 + 2 * i)] (E T (pS σ s)) Q = Q (.inl none) (E T (pS σ (if isWd f i s then rdOn f n s else blm 2 s))) := by
  have h0 := ob_md
  rw [n191 _ _ _ _ _ _ _ h0]
  simp (disch := (first | assumption | omega | exact Nat.le_of_ble_eq_true rfl | rfl)) only [w191_0, w191_1, w191_2, w191_5, w191_8, w191_9, w191_10, w191_13, Ko_n, Ko_v, vX_i, vX_r, vX_l, vX_j, reduceIte]
  rw [c187 hF hn hf hs hi]
  unfold tkW
  cases e : isWd f i s with
  | true =>
    simp (disch := (first | assumption | omega | exact Nat.le_of_ble_eq_true rfl | rfl)) only [w191_0, w191_1, w191_2, w191_5, w191_8, w191_9, w191_10, w191_13, Ko_n, Ko_v, vX_i, vX_r, vX_l, vX_j, reduceIte, Int.reduceEq, not_false_eq_true]
  | false =>
    simp (disch := (first | assumption | omega | exact Nat.le_of_ble_eq_true rfl | rfl)) only [w191_0, w191_1, w191_2, w191_5, w191_8, w191_9, w191_10, w191_13, Ko_n, Ko_v, vX_i, vX_r, vX_l, vX_j, reduceIte, Bool.false_eq_true, not_true]
    rw [c185 hs]
    simp (disch := (first | assumption | omega | exact Nat.le_of_ble_eq_true rfl | rfl)) only [w191_0, w191_1, w191_2, w191_5, w191_8, w191_9, w191_10, w191_13, Ko_n, Ko_v, vX_i, vX_r, vX_l, vX_j, reduceIte]
theorem lay_O {n c : Int} {s : Ps} (h : pO n s) : pO n (lay c s) := by
  unfold lay
  split
  · exact h
  · exact h
theorem c192 {d : Nat} {k c n : Int} {T : Tt} {σ : St} {s : Ps} {Q : vmO → vmH → Prop} (hs : pO n s) (k0 : 0 ≤ pK s 5) (k1 : pB s = 0 → pK s 5 ≤ 911) : Ca d k 192 [.ref 382, .int (i32 c)] (E T (pS σ s)) Q = Q (.inl none) (E T (pS σ (lay c s))) := by
  have h0 := ob_md
  have h1 := hs.1
  rw [n192 _ _ _ _ _ _ _ h0]
  unfold lay
  by_cases e : pB s = 0
  · have k1' := k1 e
    rw [if_pos e]
    simp (disch := (first | assumption | omega | exact Nat.le_of_ble_eq_true rfl | rfl)) only [w192_0, w192_1, w192_4, w192_7, w192_8, w192_9, w192_12, w192_15, w192_16, w192_19, w192_20, w192_21, w192_22, w192_23, w192_24, w192_25, w192_28, w192_29, w192_30, w192_31, w192_32, w192_33, w192_34, Ko_n, Ko_v, vX_i, vX_r, vX_l, vX_j, reduceIte, pS_B, pS_K, pS_uK, e, pK_, fu_n (show (5 : Int) ≠ 988 + pK s 5 by omega), pB_, pP_, pG_, pH_, pT_, pV_, pD_]
    unfold stK2
    rw [e]
  · rw [if_neg e]
    simp (disch := (first | assumption | omega | exact Nat.le_of_ble_eq_true rfl | rfl)) only [w192_0, w192_1, w192_4, w192_7, w192_8, w192_9, w192_12, w192_15, w192_16, w192_19, w192_20, w192_21, w192_22, w192_23, w192_24, w192_25, w192_28, w192_29, w192_30, w192_31, w192_32, w192_33, w192_34, Ko_n, Ko_v, vX_i, vX_r, vX_l, vX_j, reduceIte, pS_B, e]
theorem gin_O {f : Int → Int} {n : Int} {s : Ps} (hf : tpOk f n) (h : pO n s) (hd : pD s ≤ 6) : pO n (gin f n s) := by
  unfold gin
  have h6 := h.2.2.2.2.2
  refine rdO_O hf ?_
  have : ∀ t : Ps, pO n t → pO n (stD (pD s + 1) t) := fun t ht => ⟨ht.1, ht.2.1, ht.2.2.1, ht.2.2.2.1, ht.2.2.2.2.1, by show 0 ≤ pD s + 1 ∧ pD s + 1 ≤ 7; omega⟩
  apply this
  split
  · exact (blm_O h (by omega) (by omega)).1
  · exact h
theorem c193 {d : Nat} {k n : Int} {f : Int → Int} {T : Tt} {σ : St} {s : Ps} {Q : vmO → vmH → Prop} (hF : σ 1205 382 = f) (hn : σ 1207 382 0 = n) (hf : tpOk f n) (hs : pO n s) (hd : pD s ≤ 6) : Ca (d + 3) k 193 [.ref 382] (E T (pS σ s)) Q = Q (.inl none) (E T (pS σ (gin f n s))) := by
  have h0 := ob_md
  have h1 := hs.1
  have h6 := hs.2.2.2.2.2
  rw [n193 _ _ _ _ _ _ h0]
  have tail : ∀ t : Ps, pO n t → pD t = pD s → Wp (d + 3) M_X12_goesIn 14 [.ref 382] [] (E T (pS σ t)) Q = Q (.inl none) (E T (pS σ (rdO f n (stD (pD s + 1) t)))) := by
    intro t ht hd2
    have ht1 := ht.1
    have hO : pO n (stD (pD s + 1) t) := ⟨ht.1, ht.2.1, ht.2.2.1, ht.2.2.2.1, ht.2.2.2.2.1, by show 0 ≤ pD s + 1 ∧ pD s + 1 ≤ 7; omega⟩
    unfold rdO
    by_cases e : pB t = 0
    · rw [if_pos (show pB (stD (pD s + 1) t) = 0 from e)]
      simp (disch := (first | assumption | omega | exact Nat.le_of_ble_eq_true rfl | rfl)) only [w193_0, w193_1, w193_4, w193_6, w193_9, w193_10, w193_11, w193_14, w193_15, w193_16, w193_19, w193_20, w193_21, w193_24, w193_25, w193_28, w193_31, w193_32, w193_35, Ko_n, Ko_v, vX_i, vX_r, vX_l, vX_j, reduceIte, pS_D, pS_uD, hd2, pS_B, pB_, e, not_true]
      have := c184 (d := d) (k := 1) (Q := Ko (d + 2) M_X12_goesIn 35 32 [.ref 382] [] Q) (T := T) hF hn hf hO
      unfold stD at this
      rw [e] at this
      rw [this]
      simp (disch := (first | assumption | omega | exact Nat.le_of_ble_eq_true rfl | rfl)) only [w193_0, w193_1, w193_4, w193_6, w193_9, w193_10, w193_11, w193_14, w193_15, w193_16, w193_19, w193_20, w193_21, w193_24, w193_25, w193_28, w193_31, w193_32, w193_35, Ko_n, Ko_v, vX_i, vX_r, vX_l, vX_j, reduceIte]
      unfold stD
      rw [e]
    · rw [if_neg (show ¬ pB (stD (pD s + 1) t) = 0 from e)]
      simp (disch := (first | assumption | omega | exact Nat.le_of_ble_eq_true rfl | rfl)) only [w193_0, w193_1, w193_4, w193_6, w193_9, w193_10, w193_11, w193_14, w193_15, w193_16, w193_19, w193_20, w193_21, w193_24, w193_25, w193_28, w193_31, w193_32, w193_35, Ko_n, Ko_v, vX_i, vX_r, vX_l, vX_j, reduceIte, pS_D, pS_uD, hd2, pS_B, pB_, e, not_false_eq_true]
      rfl
  unfold gin
  by_cases e : pD s = 6
  · rw [if_pos e]
    have hb := (blm_O hs (k := 4) (by omega) (by omega)).1
    have := tail (blm 4 s) hb (by unfold blm; split <;> rfl)
    simp (disch := (first | assumption | omega | exact Nat.le_of_ble_eq_true rfl | rfl)) only [w193_0, w193_1, w193_4, w193_6, w193_9, w193_10, w193_11, Ko_n, Ko_v, vX_i, vX_r, vX_l, vX_j, reduceIte, pS_D, e, not_true]
    rw [c185 hs]
    simp (disch := (first | assumption | omega | exact Nat.le_of_ble_eq_true rfl | rfl)) only [w193_0, w193_1, w193_4, w193_6, w193_9, w193_10, w193_11, Ko_n, Ko_v, vX_i, vX_r, vX_l, vX_j, reduceIte]
    rw [e] at this
    exact this
  · rw [if_neg e]
    simp (disch := (first | assumption | omega | exact Nat.le_of_ble_eq_true rfl | rfl)) only [w193_0, w193_1, w193_4, w193_6, w193_9, w193_10, w193_11, Ko_n, Ko_v, vX_i, vX_r, vX_l, vX_j, reduceIte, pS_D, e, not_false_eq_true]
    exact tail s hs rfl
