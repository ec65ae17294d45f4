/-! ===== the reference reads lines ===== -/
def Mv (n : Int) (s s' : Ps) : Prop := pO n s' ∧ pK s' = pK s ∧ pD s' = pD s ∧ (pB s' = 0 → pB s = 0 ∧ pG s ≤ pG s')
theorem Mv_r {n : Int} {s : Ps} (h : pO n s) : Mv n s s := ⟨h, rfl, rfl, fun e => ⟨e, Int.le_refl _⟩⟩
theorem Mv_t {n : Int} {s t u : Ps} (h1 : Mv n s t) (h2 : Mv n t u) : Mv n s u := by
  obtain ⟨a1, a2, a3, a4⟩ := h1
  obtain ⟨b1, b2, b3, b4⟩ := h2
  refine ⟨b1, by rw [b2, a2], by rw [b3, a3], fun e => ?_⟩
  have b := b4 e
  have a := a4 b.1
  exact ⟨a.1, by omega⟩
theorem Mv_rd {f : Int → Int} {n : Int} {s : Ps} (hf : tpOk f n) (h : pO n s) : Mv n s (rdOn f n s) := ⟨(rdOn_O hf h).1, rfl, rfl, fun e => ⟨e, by have := (rdOn_O hf h).2; have := h.2.2.1; omega⟩⟩
theorem Mv_rO {f : Int → Int} {n : Int} {s : Ps} (hf : tpOk f n) (h : pO n s) : Mv n s (rdO f n s) := by
  unfold rdO
  split
  · exact Mv_rd hf h
  · exact Mv_r h
theorem Mv_bl {n k : Int} {s : Ps} (h : pO n s) (k0 : 1 ≤ k) (k1 : k ≤ 4) : Mv n s (blm k s) := by
  have hO := blm_O h k0 k1
  refine ⟨hO.1, ?_, ?_, fun e => absurd e hO.2⟩
  · unfold blm; split <;> rfl
  · unfold blm; split <;> rfl
theorem Mv_lk {n lo hi : Int} {s : Ps} (h : pO n s) : Mv n s (lkN lo hi s) := by
  unfold lkN
  split
  · split
    · exact Mv_r h
    · exact Mv_bl h (by omega) (by omega)
  · exact Mv_bl h (by omega) (by omega)
theorem Mv_nm {f : Int → Int} {n lo hi : Int} {s : Ps} (hf : tpOk f n) (h : pO n s) : Mv n s (nmb f n lo hi s).2 := Mv_t (Mv_lk h) (Mv_rO hf (lkN_O h))
theorem Mv_mu {f : Int → Int} {n c : Int} {s : Ps} (hf : tpOk f n) (h : pO n s) : Mv n s (muS f n c s) := by
  unfold muS
  split
  · exact Mv_rO hf h
  · exact Mv_t (Mv_bl h (by omega) (by omega)) (Mv_rO hf (blm_O h (by omega) (by omega)).1)
theorem lkN_0 {n lo hi : Int} {s : Ps} (h : pO n s) (e : pB (lkN lo hi s) = 0) : lkN lo hi s = s ∧ pB s = 0 ∧ pT s = 2 ∧ lo ≤ pV s ∧ pV s ≤ hi := by
  unfold lkN at e ⊢
  by_cases h1 : pT s = 2
  · rw [if_pos h1] at e ⊢
    by_cases h2 : lo ≤ pV s ∧ pV s ≤ hi
    · rw [if_pos h2] at e ⊢
      exact ⟨rfl, e, h1, h2⟩
    · rw [if_neg h2] at e
      exact absurd e (blm_O h (by omega) (by omega)).2
  · rw [if_neg h1] at e
    exact absurd e (blm_O h (by omega) (by omega)).2
theorem nmb_v {f : Int → Int} {n lo hi : Int} {s : Ps} (h : pO n s) : (pB (nmb f n lo hi s).2 = 0 → lo ≤ (nmb f n lo hi s).1 ∧ (nmb f n lo hi s).1 ≤ hi ∧ (nmb f n lo hi s).1 = pV s ∧ pT s = 2 ∧ (nmb f n lo hi s).2 = rdOn f n s) ∧ (lo ≤ hi → lo ≤ (nmb f n lo hi s).1 ∧ (nmb f n lo hi s).1 ≤ hi) ∧ lo ≤ (nmb f n lo hi s).1 := by
  unfold nmb
  dsimp only
  rw [rdO_B]
  refine ⟨fun e => ?_, fun hle => ?_, ?_⟩
  · have := lkN_0 h e
    rw [if_pos e]
    refine ⟨this.2.2.2.1, this.2.2.2.2, rfl, this.2.2.1, ?_⟩
    rw [this.1]
    unfold rdO
    rw [if_pos this.2.1]
  · split
    · rename_i e
      have := lkN_0 h e
      exact this.2.2.2
    · exact ⟨Int.le_refl _, hle⟩
  · split
    · rename_i e
      have := lkN_0 h e
      exact this.2.2.2.1
    · exact Int.le_refl _
def tW (K : Int → Int) : Prop := (2 ≤ K 1 ∧ K 1 ≤ 6) ∧ (2 ≤ K 2 ∧ K 2 ≤ 6) ∧ (0 ≤ K 3 ∧ K 3 ≤ 5) ∧ ∀ w, 0 ≤ w → w < 5 → 0 ≤ K (93 + w) ∧ K (93 + w) ≤ 4
theorem cel_in {f : Int → Int} {n : Int} {s : Ps} (hf : tpOk f n) (h : pO n s) (ht : tW (pK s)) : Mv n s (celP f n s).2 ∧ 0 ≤ (celP f n s).1 ∧ (celP f n s).1 < pK s 1 * pK s 2 := by
  have h1 := Mv_nm (lo := 0) (hi := pK s 1 - 1) hf h
  have h2 := Mv_nm (lo := 0) (hi := pK s 2 - 1) hf h1.1
  have v1 := (nmb_v (f := f) (lo := 0) (hi := pK s 1 - 1) h).2.1 (by have := ht.1; omega)
  have v2 := (nmb_v (f := f) (lo := 0) (hi := pK s 2 - 1) h1.1).2.1 (by have := ht.2.1; omega)
  unfold celP
  dsimp only
  refine ⟨Mv_t h1 h2, ?_⟩
  have e1 := ht.1
  have e2 := ht.2.1
  generalize (nmb f n 0 (pK s 2 - 1) (nmb f n 0 (pK s 1 - 1) s).2).1 = y at *
  generalize (nmb f n 0 (pK s 1 - 1) s).1 = x at *
  have m1 : pK s 1 * y ≤ pK s 1 * (pK s 2 - 1) := Int.mul_le_mul_of_nonneg_left v2.2 (by omega)
  have m2 : 0 ≤ pK s 1 * y := Int.mul_nonneg (by omega) v2.1
  have m3 : 0 < pK s 1 * pK s 2 := Int.mul_pos (by omega) (by omega)
  rw [Int.mul_sub, Int.mul_one] at m1
  split <;> omega
theorem c201 {d : Nat} {k n : Int} {f : Int → Int} {T : Tt} {σ : St} {s : Ps} {Q : vmO → vmH → Prop} (hF : σ 1205 382 = f) (hn : σ 1207 382 0 = n) (hf : tpOk f n) (hs : pO n s) (ht : tW (pK s)) : Ca (d + 4) k 201 [.ref 382] (E T (pS σ s)) Q = Q (.inl (some (.int (i32 (celP f n s).1)))) (E T (pS σ (celP f n s).2)) := by
  have h0 := ob_md
  have e1 := ht.1
  have e2 := ht.2.1
  rw [n201 _ _ _ _ _ _ h0]
  have h1 := Mv_nm (lo := 0) (hi := pK s 1 - 1) hf hs
  have h2 := Mv_nm (lo := 0) (hi := pK s 2 - 1) hf h1.1
  have hb := h2.1.1
  simp (disch := (first | assumption | omega | exact Nat.le_of_ble_eq_true rfl | rfl)) only [w201_0, w201_1, w201_2, w201_3, w201_6, w201_7, w201_8, w201_9, w201_10, w201_13, w201_14, w201_15, w201_16, w201_17, w201_20, w201_21, w201_22, w201_23, w201_24, w201_27, w201_28, w201_29, w201_32, w201_35, w201_36, w201_39, w201_40, w201_41, w201_42, w201_43, w201_44, w201_45, w201_48, w201_49, Ko_n, Ko_v, vX_i, vX_r, vX_l, vX_j, reduceIte, pS_K]
  rw [c190 hF hn hf hs (by omega) (by omega) (by omega) (by omega)]
  simp (disch := (first | assumption | omega | exact Nat.le_of_ble_eq_true rfl | rfl)) only [w201_0, w201_1, w201_2, w201_3, w201_6, w201_7, w201_8, w201_9, w201_10, w201_13, w201_14, w201_15, w201_16, w201_17, w201_20, w201_21, w201_22, w201_23, w201_24, w201_27, w201_28, w201_29, w201_32, w201_35, w201_36, w201_39, w201_40, w201_41, w201_42, w201_43, w201_44, w201_45, w201_48, w201_49, Ko_n, Ko_v, vX_i, vX_r, vX_l, vX_j, reduceIte, pS_K, h1.2.1]
  rw [c190 hF hn hf h1.1 (by omega) (by omega) (by omega) (by omega)]
  unfold celP
  dsimp only
  by_cases e : pB (nmb f n 0 (pK s 2 - 1) (nmb f n 0 (pK s 1 - 1) s).2).2 = 0
  · rw [if_pos e]
    simp (disch := (first | assumption | omega | exact Nat.le_of_ble_eq_true rfl | rfl)) only [w201_0, w201_1, w201_2, w201_3, w201_6, w201_7, w201_8, w201_9, w201_10, w201_13, w201_14, w201_15, w201_16, w201_17, w201_20, w201_21, w201_22, w201_23, w201_24, w201_27, w201_28, w201_29, w201_32, w201_35, w201_36, w201_39, w201_40, w201_41, w201_42, w201_43, w201_44, w201_45, w201_48, w201_49, Ko_n, Ko_v, vX_i, vX_r, vX_l, vX_j, reduceIte, pS_K, pS_B, h1.2.1, h2.2.1, e, not_true]
  · rw [if_neg e]
    simp (disch := (first | assumption | omega | exact Nat.le_of_ble_eq_true rfl | rfl)) only [w201_0, w201_1, w201_2, w201_3, w201_6, w201_7, w201_8, w201_9, w201_10, w201_13, w201_14, w201_15, w201_16, w201_17, w201_20, w201_21, w201_22, w201_23, w201_24, w201_27, w201_28, w201_29, w201_32, w201_35, w201_36, w201_39, w201_40, w201_41, w201_42, w201_43, w201_44, w201_45, w201_48, w201_49, Ko_n, Ko_v, vX_i, vX_r, vX_l, vX_j, reduceIte, pS_K, pS_B, e, not_false_eq_true]
theorem kdW_in {f : Int → Int} {s : Ps} : 0 ≤ kdW f s ∧ kdW f s ≤ 3 := by unfold kdW; repeat' split <;> omega
theorem kdW_h {f : Int → Int} {s : Ps} (h : kdW f s ≠ 0) : pB s = 0 := by
  unfold kdW at h
  by_cases e1 : isWd f 3 s = true
  · exact (isWd_h e1).1
  · by_cases e2 : isWd f 4 s = true
    · exact (isWd_h e2).1
    · by_cases e3 : isWd f 5 s = true
      · exact (isWd_h e3).1
      · rw [if_neg e1, if_neg e2, if_neg e3] at h
        exact absurd rfl h
theorem pS_st {σ : St} {s : Ps} {K : Int → Int} : pS σ (pB s, pP s, pG s, pH s, pT s, pV s, pD s, K) = pS σ (stK2 K s) := rfl
theorem c202 {d : Nat} {k n : Int} {f : Int → Int} {T : Tt} {σ : St} {s : Ps} {Q : vmO → vmH → Prop} (hF : σ 1205 382 = f) (hn : σ 1207 382 0 = n) (hf : tpOk f n) (hs : pO n s) (ht : tW (pK s)) : Ca (d + 6) k 202 [.ref 382] (E T (pS σ s)) Q = Q (.inl none) (E T (pS σ (hdg f n s))) := by
  have h0 := ob_md
  have e1 := ht.1
  have e2 := ht.2.1
  have hc := cel_in hf hs ht
  have hm := wh_mul (W := pK s 1) (H := pK s 2) ⟨e1.1, e1.2, e2.1, e2.2⟩
  rw [n202 _ _ _ _ _ _ h0]
  unfold hdg
  dsimp only
  simp (disch := (first | assumption | omega | exact Nat.le_of_ble_eq_true rfl | rfl)) only [w202_0, w202_1, w202_4, w202_5, w202_6, w202_8, w202_11, w202_14, w202_15, w202_18, w202_19, w202_21, w202_24, w202_27, w202_28, w202_31, w202_32, w202_34, w202_37, w202_40, w202_41, w202_44, w202_45, w202_46, w202_47, w202_50, w202_51, w202_52, w202_55, w202_56, w202_57, w202_59, w202_62, w202_63, w202_64, w202_67, w202_70, w202_71, w202_72, w202_75, w202_77, w202_78, w202_79, w202_80, w202_81, w202_82, w202_85, w202_87, w202_88, w202_89, w202_90, w202_91, Ko_n, Ko_v, vX_i, vX_r, vX_l, vX_j, reduceIte]
  rw [c201 hF hn hf hs ht]
  have hkd := kdW_in (f := f) (s := (celP f n s).2)
  have md : ∀ (t : Ps) (l2 : Value), Mv n s t → t = (if kdW f (celP f n s).2 = 0 then blm 2 (celP f n s).2 else rdOn f n (celP f n s).2) → Wp (d + 6) M_X12_readHedge 55 [.ref 382, .int (i32 (celP f n s).1), .int (i32 (kdW f (celP f n s).2)), l2] [] (E T (pS σ t)) Q = Q (.inl none) (E T (pS σ (if pB (nmb f n 1 60 t).2 = 0 then stK2 (fu (fu (pK (nmb f n 1 60 t).2) (7 + (celP f n s).1) (kdW f (celP f n s).2)) (43 + (celP f n s).1) (nmb f n 1 60 t).1) (nmb f n 1 60 t).2 else (nmb f n 1 60 t).2))) := by
    intro t l2 hm2 _
    have h3 := Mv_nm (lo := 1) (hi := 60) hf hm2.1
    have hb := h3.1.1
    simp (disch := (first | assumption | omega | exact Nat.le_of_ble_eq_true rfl | rfl)) only [w202_0, w202_1, w202_4, w202_5, w202_6, w202_8, w202_11, w202_14, w202_15, w202_18, w202_19, w202_21, w202_24, w202_27, w202_28, w202_31, w202_32, w202_34, w202_37, w202_40, w202_41, w202_44, w202_45, w202_46, w202_47, w202_50, w202_51, w202_52, w202_55, w202_56, w202_57, w202_59, w202_62, w202_63, w202_64, w202_67, w202_70, w202_71, w202_72, w202_75, w202_77, w202_78, w202_79, w202_80, w202_81, w202_82, w202_85, w202_87, w202_88, w202_89, w202_90, w202_91, Ko_n, Ko_v, vX_i, vX_r, vX_l, vX_j, reduceIte]
    rw [c190 hF hn hf hm2.1 (by omega) (by omega) (by omega) (by omega)]
    generalize nmb f n 1 60 t = x at *
    generalize celP f n s = y at *
    by_cases e : pB x.2 = 0
    · rw [if_pos e]
      simp (disch := (first | assumption | omega | exact Nat.le_of_ble_eq_true rfl | rfl)) only [w202_0, w202_1, w202_4, w202_5, w202_6, w202_8, w202_11, w202_14, w202_15, w202_18, w202_19, w202_21, w202_24, w202_27, w202_28, w202_31, w202_32, w202_34, w202_37, w202_40, w202_41, w202_44, w202_45, w202_46, w202_47, w202_50, w202_51, w202_52, w202_55, w202_56, w202_57, w202_59, w202_62, w202_63, w202_64, w202_67, w202_70, w202_71, w202_72, w202_75, w202_77, w202_78, w202_79, w202_80, w202_81, w202_82, w202_85, w202_87, w202_88, w202_89, w202_90, w202_91, Ko_n, Ko_v, vX_i, vX_r, vX_l, vX_j, reduceIte, pS_B, pS_K, e, pS_uK, pK_, pB_, pP_, pG_, pH_, pT_, pV_, pD_]
      unfold stK2
      rw [e]
    · rw [if_neg e]
      simp (disch := (first | assumption | omega | exact Nat.le_of_ble_eq_true rfl | rfl)) only [w202_0, w202_1, w202_4, w202_5, w202_6, w202_8, w202_11, w202_14, w202_15, w202_18, w202_19, w202_21, w202_24, w202_27, w202_28, w202_31, w202_32, w202_34, w202_37, w202_40, w202_41, w202_44, w202_45, w202_46, w202_47, w202_50, w202_51, w202_52, w202_55, w202_56, w202_57, w202_59, w202_62, w202_63, w202_64, w202_67, w202_70, w202_71, w202_72, w202_75, w202_77, w202_78, w202_79, w202_80, w202_81, w202_82, w202_85, w202_87, w202_88, w202_89, w202_90, w202_91, Ko_n, Ko_v, vX_i, vX_r, vX_l, vX_j, reduceIte, pS_B, e]
  have md2 := fun l2 => md _ l2 (by
    split
    · exact Mv_t hc.1 (Mv_bl hc.1.1 (by omega) (by omega))
    · exact Mv_t hc.1 (Mv_rd hf hc.1.1)) rfl
  simp (disch := (first | assumption | omega | exact Nat.le_of_ble_eq_true rfl | rfl)) only [w202_0, w202_1, w202_4, w202_5, w202_6, w202_8, w202_11, w202_14, w202_15, w202_18, w202_19, w202_21, w202_24, w202_27, w202_28, w202_31, w202_32, w202_34, w202_37, w202_40, w202_41, w202_44, w202_45, w202_46, w202_47, w202_50, w202_51, w202_52, w202_55, w202_56, w202_57, w202_59, w202_62, w202_63, w202_64, w202_67, w202_70, w202_71, w202_72, w202_75, w202_77, w202_78, w202_79, w202_80, w202_81, w202_82, w202_85, w202_87, w202_88, w202_89, w202_90, w202_91, Ko_n, Ko_v, vX_i, vX_r, vX_l, vX_j, reduceIte]
  rw [c187w (i := 3) rfl hF hn hf hc.1.1 (by omega)]
  cases w3 : isWd f 3 (celP f n s).2 with
  | true =>
    have hk : kdW f (celP f n s).2 = 1 := by unfold kdW; rw [if_pos w3]
    rw [hk, if_neg (by omega)] at md2
    rw [hk, if_neg (show ¬ (1 : Int) = 0 by omega), tkW_t w3]
    simp (disch := (first | assumption | omega | exact Nat.le_of_ble_eq_true rfl | rfl)) only [w202_5, w202_6, w202_8, w202_11, w202_14, w202_15, w202_18, w202_19, w202_21, w202_24, w202_27, w202_28, w202_31, w202_32, w202_34, w202_37, w202_40, w202_41, w202_44, w202_45, w202_46, w202_47, w202_50, w202_51, w202_52, Ko_n, Ko_v, vX_i, vX_r, vX_l, vX_j, reduceIte, Int.reduceEq, not_false_eq_true]
    exact md2 _
  | false =>
    rw [tkW_f w3]
    simp (disch := (first | assumption | omega | exact Nat.le_of_ble_eq_true rfl | rfl)) only [w202_5, w202_6, w202_8, w202_11, w202_14, w202_15, w202_18, w202_19, w202_21, w202_24, w202_27, w202_28, w202_31, w202_32, w202_34, w202_37, w202_40, w202_41, w202_44, w202_45, w202_46, w202_47, w202_50, w202_51, w202_52, Ko_n, Ko_v, vX_i, vX_r, vX_l, vX_j, reduceIte, Bool.false_eq_true]
    rw [c187w (i := 4) rfl hF hn hf hc.1.1 (by omega)]
    cases w4 : isWd f 4 (celP f n s).2 with
    | true =>
      have hk : kdW f (celP f n s).2 = 2 := by unfold kdW; rw [w3, if_neg (by simp), if_pos w4]
      rw [hk, if_neg (by omega)] at md2
      rw [hk, if_neg (show ¬ (2 : Int) = 0 by omega), tkW_t w4]
      simp (disch := (first | assumption | omega | exact Nat.le_of_ble_eq_true rfl | rfl)) only [w202_5, w202_6, w202_8, w202_11, w202_14, w202_15, w202_18, w202_19, w202_21, w202_24, w202_27, w202_28, w202_31, w202_32, w202_34, w202_37, w202_40, w202_41, w202_44, w202_45, w202_46, w202_47, w202_50, w202_51, w202_52, Ko_n, Ko_v, vX_i, vX_r, vX_l, vX_j, reduceIte, Int.reduceEq, not_false_eq_true]
      exact md2 _
    | false =>
      rw [tkW_f w4]
      simp (disch := (first | assumption | omega | exact Nat.le_of_ble_eq_true rfl | rfl)) only [w202_5, w202_6, w202_8, w202_11, w202_14, w202_15, w202_18, w202_19, w202_21, w202_24, w202_27, w202_28, w202_31, w202_32, w202_34, w202_37, w202_40, w202_41, w202_44, w202_45, w202_46, w202_47, w202_50, w202_51, w202_52, Ko_n, Ko_v, vX_i, vX_r, vX_l, vX_j, reduceIte, Bool.false_eq_true]
      rw [c187w (i := 5) rfl hF hn hf hc.1.1 (by omega)]
      cases w5 : isWd f 5 (celP f n s).2 with
      | true =>
        have hk : kdW f (celP f n s).2 = 3 := by unfold kdW; rw [w3, if_neg (by simp), w4, if_neg (by simp), if_pos w5]
        rw [hk, if_neg (by omega)] at md2
        rw [hk, if_neg (show ¬ (3 : Int) = 0 by omega), tkW_t w5]
        simp (disch := (first | assumption | omega | exact Nat.le_of_ble_eq_true rfl | rfl)) only [w202_5, w202_6, w202_8, w202_11, w202_14, w202_15, w202_18, w202_19, w202_21, w202_24, w202_27, w202_28, w202_31, w202_32, w202_34, w202_37, w202_40, w202_41, w202_44, w202_45, w202_46, w202_47, w202_50, w202_51, w202_52, Ko_n, Ko_v, vX_i, vX_r, vX_l, vX_j, reduceIte, Int.reduceEq, not_false_eq_true]
        exact md2 _
      | false =>
        have hk : kdW f (celP f n s).2 = 0 := by unfold kdW; rw [w3, if_neg (by simp), w4, if_neg (by simp), w5, if_neg (by simp)]
        rw [hk, if_pos rfl] at md2
        rw [hk, if_pos rfl, tkW_f w5]
        simp (disch := (first | assumption | omega | exact Nat.le_of_ble_eq_true rfl | rfl)) only [w202_5, w202_6, w202_8, w202_11, w202_14, w202_15, w202_18, w202_19, w202_21, w202_24, w202_27, w202_28, w202_31, w202_32, w202_34, w202_37, w202_40, w202_41, w202_44, w202_45, w202_46, w202_47, w202_50, w202_51, w202_52, Ko_n, Ko_v, vX_i, vX_r, vX_l, vX_j, reduceIte, Bool.false_eq_true, not_true]
        rw [c185 hc.1.1]
        simp (disch := (first | assumption | omega | exact Nat.le_of_ble_eq_true rfl | rfl)) only [w202_5, w202_6, w202_8, w202_11, w202_14, w202_15, w202_18, w202_19, w202_21, w202_24, w202_27, w202_28, w202_31, w202_32, w202_34, w202_37, w202_40, w202_41, w202_44, w202_45, w202_46, w202_47, w202_50, w202_51, w202_52, Ko_n, Ko_v, vX_i, vX_r, vX_l, vX_j, reduceIte]
        exact md2 _
theorem c203 {d : Nat} {k n : Int} {f : Int → Int} {T : Tt} {σ : St} {s : Ps} {Q : vmO → vmH → Prop} (hF : σ 1205 382 = f) (hn : σ 1207 382 0 = n) (hf : tpOk f n) (hs : pO n s) (ht : tW (pK s)) : Ca (d + 5) k 203 [.ref 382] (E T (pS σ s)) Q = Q (.inl none) (E T (pS σ (wal f n s))) := by
  have h0 := ob_md
  have e1 := ht.1
  have e2 := ht.2.1
  have e3 := ht.2.2.1
  have hm := wh_mul (W := pK s 1) (H := pK s 2) ⟨e1.1, e1.2, e2.1, e2.2⟩
  rw [n203 _ _ _ _ _ _ h0]
  unfold wal
  dsimp only
  have tl : ∀ t : Ps, Mv n s t → Wp (d + 5) M_X12_readWall 25 [.ref 382, vmJ] [] (E T (pS σ t)) Q = Q (.inl none) (E T (pS σ (if pB t = 0 then (if pB (celP f n t).2 = 0 then stK2 (fu (fu (pK (celP f n t).2) (7 + (celP f n t).1) 4) (43 + (celP f n t).1) 0) (celP f n t).2 else (celP f n t).2) else t))) := by
    intro t hm2
    have hb := hm2.1.1
    by_cases e : pB t = 0
    · rw [if_pos e]
      have ht2 : tW (pK t) := by rw [hm2.2.1]; exact ht
      have hc := cel_in hf hm2.1 ht2
      rw [hm2.2.1] at hc
      have hb2 := hc.1.1.1
      simp (disch := (first | assumption | omega | exact Nat.le_of_ble_eq_true rfl | rfl)) only [w203_0, w203_1, w203_4, w203_5, w203_6, w203_9, w203_10, w203_11, w203_14, w203_15, w203_18, w203_21, w203_22, w203_25, w203_26, w203_29, w203_32, w203_33, w203_34, w203_37, w203_38, w203_39, w203_42, w203_45, w203_46, w203_47, w203_50, w203_52, w203_53, w203_54, w203_55, w203_56, w203_57, w203_60, w203_62, w203_63, w203_64, w203_65, w203_66, Ko_n, Ko_v, vX_i, vX_r, vX_l, vX_j, reduceIte, pS_B, e]
      rw [c201 hF hn hf hm2.1 ht2]
      generalize celP f n t = y at *
      by_cases e5 : pB y.2 = 0
      · rw [if_pos e5]
        simp (disch := (first | assumption | omega | exact Nat.le_of_ble_eq_true rfl | rfl)) only [w203_0, w203_1, w203_4, w203_5, w203_6, w203_9, w203_10, w203_11, w203_14, w203_15, w203_18, w203_21, w203_22, w203_25, w203_26, w203_29, w203_32, w203_33, w203_34, w203_37, w203_38, w203_39, w203_42, w203_45, w203_46, w203_47, w203_50, w203_52, w203_53, w203_54, w203_55, w203_56, w203_57, w203_60, w203_62, w203_63, w203_64, w203_65, w203_66, Ko_n, Ko_v, vX_i, vX_r, vX_l, vX_j, reduceIte, pS_B, pS_K, e5, pS_uK, pK_, pB_, pP_, pG_, pH_, pT_, pV_, pD_]
        unfold stK2
        rw [e5]
      · rw [if_neg e5]
        simp (disch := (first | assumption | omega | exact Nat.le_of_ble_eq_true rfl | rfl)) only [w203_0, w203_1, w203_4, w203_5, w203_6, w203_9, w203_10, w203_11, w203_14, w203_15, w203_18, w203_21, w203_22, w203_25, w203_26, w203_29, w203_32, w203_33, w203_34, w203_37, w203_38, w203_39, w203_42, w203_45, w203_46, w203_47, w203_50, w203_52, w203_53, w203_54, w203_55, w203_56, w203_57, w203_60, w203_62, w203_63, w203_64, w203_65, w203_66, Ko_n, Ko_v, vX_i, vX_r, vX_l, vX_j, reduceIte, pS_B, e5]
    · rw [if_neg e]
      simp (disch := (first | assumption | omega | exact Nat.le_of_ble_eq_true rfl | rfl)) only [w203_0, w203_1, w203_4, w203_5, w203_6, w203_9, w203_10, w203_11, w203_14, w203_15, w203_18, w203_21, w203_22, w203_25, w203_26, w203_29, w203_32, w203_33, w203_34, w203_37, w203_38, w203_39, w203_42, w203_45, w203_46, w203_47, w203_50, w203_52, w203_53, w203_54, w203_55, w203_56, w203_57, w203_60, w203_62, w203_63, w203_64, w203_65, w203_66, Ko_n, Ko_v, vX_i, vX_r, vX_l, vX_j, reduceIte, pS_B, e]
  have md : ∀ t : Ps, Mv n s t → Wp (d + 5) M_X12_readWall 14 [.ref 382, vmJ] [] (E T (pS σ t)) Q = Wp (d + 5) M_X12_readWall 25 [.ref 382, vmJ] [] (E T (pS σ (rdO f n t))) Q := by
    intro t hm2
    have hb := hm2.1.1
    unfold rdO
    by_cases e : pB t = 0
    · rw [if_pos e]
      simp (disch := (first | assumption | omega | exact Nat.le_of_ble_eq_true rfl | rfl)) only [w203_14, w203_15, w203_18, w203_21, w203_22, Ko_n, Ko_v, vX_i, vX_r, vX_l, vX_j, reduceIte, pS_B, e, not_true]
      rw [c184 hF hn hf hm2.1]
      simp (disch := (first | assumption | omega | exact Nat.le_of_ble_eq_true rfl | rfl)) only [w203_14, w203_15, w203_18, w203_21, w203_22, Ko_n, Ko_v, vX_i, vX_r, vX_l, vX_j, reduceIte]
    · rw [if_neg e]
      simp (disch := (first | assumption | omega | exact Nat.le_of_ble_eq_true rfl | rfl)) only [w203_14, w203_15, w203_18, w203_21, w203_22, Ko_n, Ko_v, vX_i, vX_r, vX_l, vX_j, reduceIte, pS_B, e, not_false_eq_true]
  by_cases e : pK s 3 ≤ 0
  · rw [if_neg (show ¬ 0 < pK s 3 by omega)]
    simp (disch := (first | assumption | omega | exact Nat.le_of_ble_eq_true rfl | rfl)) only [w203_0, w203_1, w203_4, w203_5, w203_6, w203_9, w203_10, w203_11, Ko_n, Ko_v, vX_i, vX_r, vX_l, vX_j, reduceIte, pS_K, e]
    rw [md s (Mv_r hs), tl _ (Mv_rO hf hs)]
  · rw [if_pos (show 0 < pK s 3 by omega)]
    have hB := Mv_bl (k := 2) hs (by omega) (by omega)
    simp (disch := (first | assumption | omega | exact Nat.le_of_ble_eq_true rfl | rfl)) only [w203_0, w203_1, w203_4, w203_5, w203_6, w203_9, w203_10, w203_11, Ko_n, Ko_v, vX_i, vX_r, vX_l, vX_j, reduceIte, pS_K, e]
    rw [c185 hs]
    simp (disch := (first | assumption | omega | exact Nat.le_of_ble_eq_true rfl | rfl)) only [w203_0, w203_1, w203_4, w203_5, w203_6, w203_9, w203_10, w203_11, Ko_n, Ko_v, vX_i, vX_r, vX_l, vX_j, reduceIte]
    rw [md _ hB, tl _ (Mv_t hB (Mv_rO hf hB.1))]
