/-! ===== the reference reads a law ===== -/
theorem c186w {d i r : Nat} {k n : Int} {f : Int → Int} {T : Tt} {σ : St} {s : Ps} {Q : vmO → vmH → Prop} (hr : r = 1000000 + 2 * i) (hF : σ 1205 382 = f) (hf : tpOk f n) (hs : pO n s) (hi : i < 22) : Ca (d + 4) k 186 [.ref 382, .ref r] (E T (pS σ s)) Q = Q (.inl (some (.int (i32 (if isWd f i s then 1 else 0))))) (E T (pS σ s)) := by
  subst hr
  exact c186 hF hf hs hi
theorem c187w {d i r : Nat} {k n : Int} {f : Int → Int} {T : Tt} {σ : St} {s : Ps} {Q : vmO → vmH → Prop} (hr : r = 1000000 + 2 * i) (hF : σ 1205 382 = f) (hn : σ 1207 382 0 = n) (hf : tpOk f n) (hs : pO n s) (hi : i < 22) : Ca (d + 5) k 187 [.ref 382, .ref r] (E T (pS σ s)) Q = Q (.inl (some (.int (i32 (if isWd f i s then 1 else 0))))) (E T (pS σ (tkW f n i s))) := by
  subst hr
  exact c187 hF hn hf hs hi
theorem tkW_t {f : Int → Int} {n : Int} {i : Nat} {s : Ps} (h : isWd f i s = true) : tkW f n i s = rdOn f n s := by unfold tkW; rw [if_pos h]
theorem tkW_f {f : Int → Int} {n : Int} {i : Nat} {s : Ps} (h : isWd f i s = false) : tkW f n i s = s := by unfold tkW; rw [h]; rfl
theorem c199 {d : Nat} {k n : Int} {f : Int → Int} {T : Tt} {σ : St} {s : Ps} {Q : vmO → vmH → Prop} (hF : σ 1205 382 = f) (hn : σ 1207 382 0 = n) (hf : tpOk f n) (hs : pO n s) : Ca (d + 6) k 199 [.ref 382] (E T (pS σ s)) Q = Q (.inl (some (.int (i32 (lwd f s))))) (E T (pS σ (if lwd f s = -1 then s else rdOn f n s))) := by
  have h0 := ob_md
  rw [n199 _ _ _ _ _ _ h0]
  unfold lwd
  simp (disch := (first | assumption | omega | exact Nat.le_of_ble_eq_true rfl | rfl)) only [w199_0, w199_1, w199_3, w199_6, w199_9, w199_10, w199_11, w199_12, w199_14, w199_17, w199_20, w199_21, w199_22, w199_23, w199_25, w199_28, w199_31, w199_32, w199_33, w199_34, w199_36, w199_39, w199_42, w199_43, w199_44, w199_45, w199_47, w199_50, w199_53, w199_54, w199_55, w199_56, w199_58, w199_61, w199_64, w199_65, w199_68, w199_69, Ko_n, Ko_v, vX_i, vX_r, vX_l, vX_j, reduceIte]
  rw [c187w (i := 13) rfl hF hn hf hs (by omega)]
  cases e : isWd f 13 s with
  | true =>
    rw [tkW_t e]
    simp (disch := (first | assumption | omega | exact Nat.le_of_ble_eq_true rfl | rfl)) only [w199_0, w199_1, w199_3, w199_6, w199_9, w199_10, w199_11, w199_12, w199_14, w199_17, w199_20, w199_21, w199_22, w199_23, w199_25, w199_28, w199_31, w199_32, w199_33, w199_34, w199_36, w199_39, w199_42, w199_43, w199_44, w199_45, w199_47, w199_50, w199_53, w199_54, w199_55, w199_56, w199_58, w199_61, w199_64, w199_65, w199_68, w199_69, Ko_n, Ko_v, vX_i, vX_r, vX_l, vX_j, reduceIte, Int.reduceEq, Int.reduceNeg]
  | false =>
    rw [tkW_f e]
    simp (disch := (first | assumption | omega | exact Nat.le_of_ble_eq_true rfl | rfl)) only [w199_0, w199_1, w199_3, w199_6, w199_9, w199_10, w199_11, w199_12, w199_14, w199_17, w199_20, w199_21, w199_22, w199_23, w199_25, w199_28, w199_31, w199_32, w199_33, w199_34, w199_36, w199_39, w199_42, w199_43, w199_44, w199_45, w199_47, w199_50, w199_53, w199_54, w199_55, w199_56, w199_58, w199_61, w199_64, w199_65, w199_68, w199_69, Ko_n, Ko_v, vX_i, vX_r, vX_l, vX_j, reduceIte, Bool.false_eq_true]
    rw [c187w (i := 14) rfl hF hn hf hs (by omega)]
    cases e : isWd f 14 s with
    | true =>
      rw [tkW_t e]
      simp (disch := (first | assumption | omega | exact Nat.le_of_ble_eq_true rfl | rfl)) only [w199_0, w199_1, w199_3, w199_6, w199_9, w199_10, w199_11, w199_12, w199_14, w199_17, w199_20, w199_21, w199_22, w199_23, w199_25, w199_28, w199_31, w199_32, w199_33, w199_34, w199_36, w199_39, w199_42, w199_43, w199_44, w199_45, w199_47, w199_50, w199_53, w199_54, w199_55, w199_56, w199_58, w199_61, w199_64, w199_65, w199_68, w199_69, Ko_n, Ko_v, vX_i, vX_r, vX_l, vX_j, reduceIte, Int.reduceEq, Int.reduceNeg]
    | false =>
      rw [tkW_f e]
      simp (disch := (first | assumption | omega | exact Nat.le_of_ble_eq_true rfl | rfl)) only [w199_0, w199_1, w199_3, w199_6, w199_9, w199_10, w199_11, w199_12, w199_14, w199_17, w199_20, w199_21, w199_22, w199_23, w199_25, w199_28, w199_31, w199_32, w199_33, w199_34, w199_36, w199_39, w199_42, w199_43, w199_44, w199_45, w199_47, w199_50, w199_53, w199_54, w199_55, w199_56, w199_58, w199_61, w199_64, w199_65, w199_68, w199_69, Ko_n, Ko_v, vX_i, vX_r, vX_l, vX_j, reduceIte, Bool.false_eq_true]
      rw [c187w (i := 15) rfl hF hn hf hs (by omega)]
      cases e : isWd f 15 s with
      | true =>
        rw [tkW_t e]
        simp (disch := (first | assumption | omega | exact Nat.le_of_ble_eq_true rfl | rfl)) only [w199_0, w199_1, w199_3, w199_6, w199_9, w199_10, w199_11, w199_12, w199_14, w199_17, w199_20, w199_21, w199_22, w199_23, w199_25, w199_28, w199_31, w199_32, w199_33, w199_34, w199_36, w199_39, w199_42, w199_43, w199_44, w199_45, w199_47, w199_50, w199_53, w199_54, w199_55, w199_56, w199_58, w199_61, w199_64, w199_65, w199_68, w199_69, Ko_n, Ko_v, vX_i, vX_r, vX_l, vX_j, reduceIte, Int.reduceEq, Int.reduceNeg]
      | false =>
        rw [tkW_f e]
        simp (disch := (first | assumption | omega | exact Nat.le_of_ble_eq_true rfl | rfl)) only [w199_0, w199_1, w199_3, w199_6, w199_9, w199_10, w199_11, w199_12, w199_14, w199_17, w199_20, w199_21, w199_22, w199_23, w199_25, w199_28, w199_31, w199_32, w199_33, w199_34, w199_36, w199_39, w199_42, w199_43, w199_44, w199_45, w199_47, w199_50, w199_53, w199_54, w199_55, w199_56, w199_58, w199_61, w199_64, w199_65, w199_68, w199_69, Ko_n, Ko_v, vX_i, vX_r, vX_l, vX_j, reduceIte, Bool.false_eq_true]
        rw [c187w (i := 16) rfl hF hn hf hs (by omega)]
        cases e : isWd f 16 s with
        | true =>
          rw [tkW_t e]
          simp (disch := (first | assumption | omega | exact Nat.le_of_ble_eq_true rfl | rfl)) only [w199_0, w199_1, w199_3, w199_6, w199_9, w199_10, w199_11, w199_12, w199_14, w199_17, w199_20, w199_21, w199_22, w199_23, w199_25, w199_28, w199_31, w199_32, w199_33, w199_34, w199_36, w199_39, w199_42, w199_43, w199_44, w199_45, w199_47, w199_50, w199_53, w199_54, w199_55, w199_56, w199_58, w199_61, w199_64, w199_65, w199_68, w199_69, Ko_n, Ko_v, vX_i, vX_r, vX_l, vX_j, reduceIte, Int.reduceEq, Int.reduceNeg]
        | false =>
          rw [tkW_f e]
          simp (disch := (first | assumption | omega | exact Nat.le_of_ble_eq_true rfl | rfl)) only [w199_0, w199_1, w199_3, w199_6, w199_9, w199_10, w199_11, w199_12, w199_14, w199_17, w199_20, w199_21, w199_22, w199_23, w199_25, w199_28, w199_31, w199_32, w199_33, w199_34, w199_36, w199_39, w199_42, w199_43, w199_44, w199_45, w199_47, w199_50, w199_53, w199_54, w199_55, w199_56, w199_58, w199_61, w199_64, w199_65, w199_68, w199_69, Ko_n, Ko_v, vX_i, vX_r, vX_l, vX_j, reduceIte, Bool.false_eq_true]
          rw [c187w (i := 17) rfl hF hn hf hs (by omega)]
          cases e : isWd f 17 s with
          | true =>
            rw [tkW_t e]
            simp (disch := (first | assumption | omega | exact Nat.le_of_ble_eq_true rfl | rfl)) only [w199_0, w199_1, w199_3, w199_6, w199_9, w199_10, w199_11, w199_12, w199_14, w199_17, w199_20, w199_21, w199_22, w199_23, w199_25, w199_28, w199_31, w199_32, w199_33, w199_34, w199_36, w199_39, w199_42, w199_43, w199_44, w199_45, w199_47, w199_50, w199_53, w199_54, w199_55, w199_56, w199_58, w199_61, w199_64, w199_65, w199_68, w199_69, Ko_n, Ko_v, vX_i, vX_r, vX_l, vX_j, reduceIte, Int.reduceEq, Int.reduceNeg]
          | false =>
            rw [tkW_f e]
            simp (disch := (first | assumption | omega | exact Nat.le_of_ble_eq_true rfl | rfl)) only [w199_0, w199_1, w199_3, w199_6, w199_9, w199_10, w199_11, w199_12, w199_14, w199_17, w199_20, w199_21, w199_22, w199_23, w199_25, w199_28, w199_31, w199_32, w199_33, w199_34, w199_36, w199_39, w199_42, w199_43, w199_44, w199_45, w199_47, w199_50, w199_53, w199_54, w199_55, w199_56, w199_58, w199_61, w199_64, w199_65, w199_68, w199_69, Ko_n, Ko_v, vX_i, vX_r, vX_l, vX_j, reduceIte, Bool.false_eq_true]
            rw [c187w (i := 18) rfl hF hn hf hs (by omega)]
            cases e : isWd f 18 s with
            | true =>
              rw [tkW_t e]
              simp (disch := (first | assumption | omega | exact Nat.le_of_ble_eq_true rfl | rfl)) only [w199_0, w199_1, w199_3, w199_6, w199_9, w199_10, w199_11, w199_12, w199_14, w199_17, w199_20, w199_21, w199_22, w199_23, w199_25, w199_28, w199_31, w199_32, w199_33, w199_34, w199_36, w199_39, w199_42, w199_43, w199_44, w199_45, w199_47, w199_50, w199_53, w199_54, w199_55, w199_56, w199_58, w199_61, w199_64, w199_65, w199_68, w199_69, Ko_n, Ko_v, vX_i, vX_r, vX_l, vX_j, reduceIte, Int.reduceEq, Int.reduceNeg]
            | false =>
              rw [tkW_f e]
              simp (disch := (first | assumption | omega | exact Nat.le_of_ble_eq_true rfl | rfl)) only [w199_0, w199_1, w199_3, w199_6, w199_9, w199_10, w199_11, w199_12, w199_14, w199_17, w199_20, w199_21, w199_22, w199_23, w199_25, w199_28, w199_31, w199_32, w199_33, w199_34, w199_36, w199_39, w199_42, w199_43, w199_44, w199_45, w199_47, w199_50, w199_53, w199_54, w199_55, w199_56, w199_58, w199_61, w199_64, w199_65, w199_68, w199_69, Ko_n, Ko_v, vX_i, vX_r, vX_l, vX_j, reduceIte, Bool.false_eq_true]
theorem isSg_b {c : Int} {s : Ps} (h : pB s ≠ 0) : isSg c s = false := decide_eq_false fun w => h w.1
theorem isWd_b {f : Int → Int} {i : Nat} {s : Ps} (h : pB s ≠ 0) : isWd f i s = false := by
  unfold isWd
  rw [decide_eq_false fun w => h w.1, Bool.false_and]
theorem c200b {d : Nat} {k n : Int} {T : Tt} {σ : St} {s : Ps} {Q : vmO → vmH → Prop} (hs : pO n s) (hb : pB s ≠ 0) : Ca d k 200 [.ref 382] (E T (pS σ s)) Q = Q (.inl none) (E T (pS σ s)) := by
  have h0 := ob_md
  have h1 := hs.1
  rw [n200 _ _ _ _ _ _ h0]
  simp (disch := (first | assumption | omega | exact Nat.le_of_ble_eq_true rfl | rfl)) only [w200_0, w200_1, w200_4, w200_7, w200_8, w200_9, w200_12, w200_13, w200_14, w200_15, w200_18, w200_19, w200_21, w200_22, w200_23, w200_26, w200_29, w200_30, w200_32, w200_35, w200_38, w200_39, w200_42, w200_43, w200_46, w200_47, w200_49, w200_52, w200_53, w200_54, w200_57, w200_58, w200_59, w200_62, w200_65, w200_66, w200_67, w200_70, w200_73, w200_74, w200_75, w200_78, w200_79, w200_80, w200_83, Ko_n, Ko_v, vX_i, vX_r, vX_l, vX_j, reduceIte, pS_B, hb]
theorem c198b {d : Nat} {k n : Int} {T : Tt} {σ : St} {s : Ps} {Q : vmO → vmH → Prop} (hs : pO n s) (hb : pB s ≠ 0) : Ca (d + 1) k 198 [.ref 382] (E T (pS σ s)) Q = Q (.inl none) (E T (pS σ s)) := by
  have h0 := ob_md
  rw [n198 _ _ _ _ _ _ h0]
  simp (disch := (first | assumption | omega | exact Nat.le_of_ble_eq_true rfl | rfl)) only [w198_0, w198_1, w198_5, w198_7, w198_10, w198_13, w198_14, w198_17, w198_18, w198_21, w198_22, w198_24, w198_27, w198_30, Ko_n, Ko_v, vX_i, vX_r, vX_l, vX_j, reduceIte]
  rw [c200b hs hb]
  simp (disch := (first | assumption | omega | exact Nat.le_of_ble_eq_true rfl | rfl)) only [w198_0, w198_1, w198_5, w198_7, w198_10, w198_13, w198_14, w198_17, w198_18, w198_21, w198_22, w198_24, w198_27, w198_30, Ko_n, Ko_v, vX_i, vX_r, vX_l, vX_j, reduceIte]
  simp (disch := omega) only [w198_4]
  simp (disch := (first | assumption | omega | exact Nat.le_of_ble_eq_true rfl | rfl)) only [w198_0, w198_1, w198_5, w198_7, w198_10, w198_13, w198_14, w198_17, w198_18, w198_21, w198_22, w198_24, w198_27, w198_30, Ko_n, Ko_v, vX_i, vX_r, vX_l, vX_j, reduceIte, c188 hs (show (0 : Int) ≤ 42 by omega) (show (42 : Int) ≤ 255 by omega), isSg_b hb, Bool.false_eq_true]
theorem c197b {d : Nat} {k n : Int} {T : Tt} {σ : St} {s : Ps} {Q : vmO → vmH → Prop} (hs : pO n s) (hb : pB s ≠ 0) : Ca (d + 2) k 197 [.ref 382] (E T (pS σ s)) Q = Q (.inl none) (E T (pS σ s)) := by
  have h0 := ob_md
  rw [n197 _ _ _ _ _ _ h0]
  simp (disch := (first | assumption | omega | exact Nat.le_of_ble_eq_true rfl | rfl)) only [w197_0, w197_1, w197_5, w197_7, w197_10, w197_13, w197_14, w197_16, w197_19, w197_22, w197_23, w197_26, w197_27, w197_28, w197_31, w197_32, w197_35, w197_36, w197_37, w197_39, w197_42, w197_44, w197_47, w197_49, w197_52, w197_55, Ko_n, Ko_v, vX_i, vX_r, vX_l, vX_j, reduceIte]
  rw [c198b hs hb]
  simp (disch := (first | assumption | omega | exact Nat.le_of_ble_eq_true rfl | rfl)) only [w197_0, w197_1, w197_5, w197_7, w197_10, w197_13, w197_14, w197_16, w197_19, w197_22, w197_23, w197_26, w197_27, w197_28, w197_31, w197_32, w197_35, w197_36, w197_37, w197_39, w197_42, w197_44, w197_47, w197_49, w197_52, w197_55, Ko_n, Ko_v, vX_i, vX_r, vX_l, vX_j, reduceIte]
  simp (disch := omega) only [w197_4]
  simp (disch := (first | assumption | omega | exact Nat.le_of_ble_eq_true rfl | rfl)) only [w197_0, w197_1, w197_5, w197_7, w197_10, w197_13, w197_14, w197_16, w197_19, w197_22, w197_23, w197_26, w197_27, w197_28, w197_31, w197_32, w197_35, w197_36, w197_37, w197_39, w197_42, w197_44, w197_47, w197_49, w197_52, w197_55, Ko_n, Ko_v, vX_i, vX_r, vX_l, vX_j, reduceIte, c188 hs (show (0 : Int) ≤ 43 by omega) (show (43 : Int) ≤ 255 by omega), c188 hs (show (0 : Int) ≤ 45 by omega) (show (45 : Int) ≤ 255 by omega), isSg_b hb, Bool.false_eq_true, not_true]
theorem c196b {d : Nat} {k n : Int} {T : Tt} {σ : St} {s : Ps} {Q : vmO → vmH → Prop} (hs : pO n s) (hb : pB s ≠ 0) : Ca d k 196 [.ref 382] (E T (pS σ s)) Q = Q (.inl none) (E T (pS σ s)) := by
  have h0 := ob_md
  have h1 := hs.1
  rw [n196 _ _ _ _ _ _ h0]
  simp (disch := (first | assumption | omega | exact Nat.le_of_ble_eq_true rfl | rfl)) only [w196_0, w196_1, w196_4, w196_7, w196_8, w196_9, w196_11, w196_14, w196_17, w196_18, w196_21, w196_22, w196_25, w196_26, w196_28, w196_31, w196_32, w196_33, w196_36, w196_37, w196_38, w196_41, w196_44, w196_45, w196_47, w196_50, w196_53, w196_54, w196_57, w196_58, w196_61, w196_62, w196_64, w196_67, w196_68, w196_69, w196_72, w196_73, w196_74, w196_77, w196_80, w196_81, w196_84, w196_85, w196_88, w196_89, w196_90, w196_92, w196_95, w196_96, w196_98, w196_101, w196_102, w196_104, w196_107, w196_108, w196_109, w196_112, w196_113, w196_116, w196_119, w196_120, w196_123, w196_124, w196_127, w196_128, w196_129, w196_131, w196_134, w196_136, w196_139, w196_140, w196_142, w196_145, w196_147, w196_150, w196_152, w196_155, Ko_n, Ko_v, vX_i, vX_r, vX_l, vX_j, reduceIte, pS_B, hb]
theorem c195b {d : Nat} {k n : Int} {f : Int → Int} {T : Tt} {σ : St} {s : Ps} {Q : vmO → vmH → Prop} (hF : σ 1205 382 = f) (hn : σ 1207 382 0 = n) (hf : tpOk f n) (hs : pO n s) (hb : pB s ≠ 0) : Ca (d + 6) k 195 [.ref 382] (E T (pS σ s)) Q = Q (.inl none) (E T (pS σ s)) := by
  have h0 := ob_md
  rw [n195 _ _ _ _ _ _ h0]
  simp (disch := (first | assumption | omega | exact Nat.le_of_ble_eq_true rfl | rfl)) only [w195_0, w195_1, w195_5, w195_7, w195_10, w195_13, w195_14, w195_17, w195_18, w195_20, w195_23, w195_26, Ko_n, Ko_v, vX_i, vX_r, vX_l, vX_j, reduceIte]
  rw [c196b hs hb]
  simp (disch := (first | assumption | omega | exact Nat.le_of_ble_eq_true rfl | rfl)) only [w195_0, w195_1, w195_5, w195_7, w195_10, w195_13, w195_14, w195_17, w195_18, w195_20, w195_23, w195_26, Ko_n, Ko_v, vX_i, vX_r, vX_l, vX_j, reduceIte]
  simp (disch := omega) only [w195_4]
  simp (disch := (first | assumption | omega | exact Nat.le_of_ble_eq_true rfl | rfl)) only [w195_0, w195_1, w195_5, w195_7, w195_10, w195_13, w195_14, w195_17, w195_18, w195_20, w195_23, w195_26, Ko_n, Ko_v, vX_i, vX_r, vX_l, vX_j, reduceIte]
  rw [c187w (i := 19) rfl hF hn hf hs (by omega), tkW_f (isWd_b hb), isWd_b hb]
  simp (disch := (first | assumption | omega | exact Nat.le_of_ble_eq_true rfl | rfl)) only [w195_0, w195_1, w195_5, w195_7, w195_10, w195_13, w195_14, w195_17, w195_18, w195_20, w195_23, w195_26, Ko_n, Ko_v, vX_i, vX_r, vX_l, vX_j, reduceIte, Bool.false_eq_true]
theorem c194b {d : Nat} {k n : Int} {f : Int → Int} {T : Tt} {σ : St} {s : Ps} {Q : vmO → vmH → Prop} (hF : σ 1205 382 = f) (hn : σ 1207 382 0 = n) (hf : tpOk f n) (hs : pO n s) (hb : pB s ≠ 0) : Ca (d + 7) k 194 [.ref 382] (E T (pS σ s)) Q = Q (.inl none) (E T (pS σ s)) := by
  have h0 := ob_md
  rw [n194 _ _ _ _ _ _ h0]
  simp (disch := (first | assumption | omega | exact Nat.le_of_ble_eq_true rfl | rfl)) only [w194_0, w194_1, w194_5, w194_7, w194_10, w194_13, w194_14, w194_17, w194_18, w194_20, w194_23, w194_26, Ko_n, Ko_v, vX_i, vX_r, vX_l, vX_j, reduceIte]
  rw [c195b hF hn hf hs hb]
  simp (disch := (first | assumption | omega | exact Nat.le_of_ble_eq_true rfl | rfl)) only [w194_0, w194_1, w194_5, w194_7, w194_10, w194_13, w194_14, w194_17, w194_18, w194_20, w194_23, w194_26, Ko_n, Ko_v, vX_i, vX_r, vX_l, vX_j, reduceIte]
  simp (disch := omega) only [w194_4]
  simp (disch := (first | assumption | omega | exact Nat.le_of_ble_eq_true rfl | rfl)) only [w194_0, w194_1, w194_5, w194_7, w194_10, w194_13, w194_14, w194_17, w194_18, w194_20, w194_23, w194_26, Ko_n, Ko_v, vX_i, vX_r, vX_l, vX_j, reduceIte]
  rw [c187w (i := 20) rfl hF hn hf hs (by omega), tkW_f (isWd_b hb), isWd_b hb]
  simp (disch := (first | assumption | omega | exact Nat.le_of_ble_eq_true rfl | rfl)) only [w194_0, w194_1, w194_5, w194_7, w194_10, w194_13, w194_14, w194_17, w194_18, w194_20, w194_23, w194_26, Ko_n, Ko_v, vX_i, vX_r, vX_l, vX_j, reduceIte, Bool.false_eq_true]
/-- what a method of the reader does -/
def rC (T : Tt) (σ : St) (n D : Int) (b e : Nat) (F : Ps → Ps) : Prop := ∀ (d : Nat) (k : Int) (Q : vmO → vmH → Prop) (s : Ps), pO n s → kO s → pD s = D → (D = 7 → pB s ≠ 0) → Ca (d + e) k b [.ref 382] (E T (pS σ s)) Q = Q (.inl none) (E T (pS σ (F s)))
def rL (n D : Int) (F : Ps → Ps) : Prop := ∀ s, pO n s → kO s → pD s = D → (D = 7 → pB s ≠ 0) → Lo n 0 s (F s)
theorem kO_9 {n : Int} {s : Ps} (hs : pO n s) (hk : kO s) (hn : n ≤ 900) : pB s = 0 → pK s 5 ≤ 911 := fun e => by
  have := hk.2 e
  have := hs.2.2.1
  omega
theorem c200 {e : Nat} {n D : Int} {f : Int → Int} {T : Tt} {σ : St} {sub : Ps → Ps} (hF : σ 1205 382 = f) (hn : σ 1207 382 0 = n) (hf : tpOk f n) (D1 : D ≤ 6) (hL : rL n (D + 1) sub) (hC : rC T σ n (D + 1) 197 (e + 9) sub) : rC T σ n D 200 (e + 10) (pAtm f n sub) := by
  intro d k Q s hs hk hd h7
  have h0 := ob_md
  have h1 := hs.1
  have hn9 := hf.2
  rw [show d + (e + 10) = d + e + 10 by omega, n200 _ _ _ _ _ _ h0]
  unfold pAtm
  by_cases hb : pB s = 0
  · rw [if_pos hb]
    simp (disch := (first | assumption | omega | exact Nat.le_of_ble_eq_true rfl | rfl)) only [w200_0, w200_1, w200_4, w200_7, w200_8, w200_9, w200_12, w200_13, w200_14, w200_15, w200_18, w200_19, w200_21, w200_22, w200_23, w200_26, w200_29, w200_30, w200_32, w200_35, w200_38, w200_39, w200_42, w200_43, w200_46, w200_47, w200_49, w200_52, w200_53, w200_54, w200_57, w200_58, w200_59, w200_62, w200_65, w200_66, w200_67, w200_70, w200_73, w200_74, w200_75, w200_78, w200_79, w200_80, w200_83, Ko_n, Ko_v, vX_i, vX_r, vX_l, vX_j, reduceIte, pS_B, hb]
    rw [c199 hF hn hf hs]
    have hl : -1 ≤ lwd f s ∧ lwd f s ≤ 5 := by unfold lwd; repeat' split <;> omega
    by_cases hw : lwd f s = -1
    · rw [if_pos hw, if_pos hw]
      simp (disch := (first | assumption | omega | exact Nat.le_of_ble_eq_true rfl | rfl)) only [w200_0, w200_1, w200_4, w200_7, w200_8, w200_9, w200_12, w200_13, w200_14, w200_15, w200_18, w200_19, w200_21, w200_22, w200_23, w200_26, w200_29, w200_30, w200_32, w200_35, w200_38, w200_39, w200_42, w200_43, w200_46, w200_47, w200_49, w200_52, w200_53, w200_54, w200_57, w200_58, w200_59, w200_62, w200_65, w200_66, w200_67, w200_70, w200_73, w200_74, w200_75, w200_78, w200_79, w200_80, w200_83, Ko_n, Ko_v, vX_i, vX_r, vX_l, vX_j, reduceIte, hw]
      rw [c188 hs (by omega) (by omega)]
      cases hz : isSg 40 s with
      | true =>
        have g := Lo_gi hf hs (by omega)
        have g2 := hL _ g.1.1 (Lo_k g.1 hk) (by rw [g.1.2.1]; omega) (fun e => g.2 (by omega))
        have hc := fun k Q => hC d k Q _ g.1.1 (Lo_k g.1 hk) (by rw [g.1.2.1]; omega) (fun e => g.2 (by omega))
        rw [show d + (e + 9) = d + e + 9 by omega] at hc
        simp (disch := (first | assumption | omega | exact Nat.le_of_ble_eq_true rfl | rfl)) only [w200_0, w200_1, w200_4, w200_7, w200_8, w200_9, w200_12, w200_13, w200_14, w200_15, w200_18, w200_19, w200_21, w200_22, w200_23, w200_26, w200_29, w200_30, w200_32, w200_35, w200_38, w200_39, w200_42, w200_43, w200_46, w200_47, w200_49, w200_52, w200_53, w200_54, w200_57, w200_58, w200_59, w200_62, w200_65, w200_66, w200_67, w200_70, w200_73, w200_74, w200_75, w200_78, w200_79, w200_80, w200_83, Ko_n, Ko_v, vX_i, vX_r, vX_l, vX_j, reduceIte, Int.reduceEq]
        rw [c193 hF hn hf hs (by omega)]
        simp (disch := (first | assumption | omega | exact Nat.le_of_ble_eq_true rfl | rfl)) only [w200_0, w200_1, w200_4, w200_7, w200_8, w200_9, w200_12, w200_13, w200_14, w200_15, w200_18, w200_19, w200_21, w200_22, w200_23, w200_26, w200_29, w200_30, w200_32, w200_35, w200_38, w200_39, w200_42, w200_43, w200_46, w200_47, w200_49, w200_52, w200_53, w200_54, w200_57, w200_58, w200_59, w200_62, w200_65, w200_66, w200_67, w200_70, w200_73, w200_74, w200_75, w200_78, w200_79, w200_80, w200_83, Ko_n, Ko_v, vX_i, vX_r, vX_l, vX_j, reduceIte]
        rw [hc]
        simp (disch := (first | assumption | omega | exact Nat.le_of_ble_eq_true rfl | rfl)) only [w200_0, w200_1, w200_4, w200_7, w200_8, w200_9, w200_12, w200_13, w200_14, w200_15, w200_18, w200_19, w200_21, w200_22, w200_23, w200_26, w200_29, w200_30, w200_32, w200_35, w200_38, w200_39, w200_42, w200_43, w200_46, w200_47, w200_49, w200_52, w200_53, w200_54, w200_57, w200_58, w200_59, w200_62, w200_65, w200_66, w200_67, w200_70, w200_73, w200_74, w200_75, w200_78, w200_79, w200_80, w200_83, Ko_n, Ko_v, vX_i, vX_r, vX_l, vX_j, reduceIte]
        rw [c189 hF hn hf g2.1 (by omega) (by omega)]
        simp (disch := (first | assumption | omega | exact Nat.le_of_ble_eq_true rfl | rfl)) only [w200_0, w200_1, w200_4, w200_7, w200_8, w200_9, w200_12, w200_13, w200_14, w200_15, w200_18, w200_19, w200_21, w200_22, w200_23, w200_26, w200_29, w200_30, w200_32, w200_35, w200_38, w200_39, w200_42, w200_43, w200_46, w200_47, w200_49, w200_52, w200_53, w200_54, w200_57, w200_58, w200_59, w200_62, w200_65, w200_66, w200_67, w200_70, w200_73, w200_74, w200_75, w200_78, w200_79, w200_80, w200_83, Ko_n, Ko_v, vX_i, vX_r, vX_l, vX_j, reduceIte, pS_D, pS_uD]
        rfl
      | false =>
        have hO := nmb_O (lo := 0) (hi := 999) hf hs
        have hL2 := Lo_nm (lo := 0) (hi := 999) hf hs
        simp (disch := (first | assumption | omega | exact Nat.le_of_ble_eq_true rfl | rfl)) only [w200_0, w200_1, w200_4, w200_7, w200_8, w200_9, w200_12, w200_13, w200_14, w200_15, w200_18, w200_19, w200_21, w200_22, w200_23, w200_26, w200_29, w200_30, w200_32, w200_35, w200_38, w200_39, w200_42, w200_43, w200_46, w200_47, w200_49, w200_52, w200_53, w200_54, w200_57, w200_58, w200_59, w200_62, w200_65, w200_66, w200_67, w200_70, w200_73, w200_74, w200_75, w200_78, w200_79, w200_80, w200_83, Ko_n, Ko_v, vX_i, vX_r, vX_l, vX_j, reduceIte, Bool.false_eq_true]
        rw [c190 hF hn hf hs (by omega) (by omega) (by omega) (by omega)]
        simp (disch := (first | assumption | omega | exact Nat.le_of_ble_eq_true rfl | rfl)) only [w200_0, w200_1, w200_4, w200_7, w200_8, w200_9, w200_12, w200_13, w200_14, w200_15, w200_18, w200_19, w200_21, w200_22, w200_23, w200_26, w200_29, w200_30, w200_32, w200_35, w200_38, w200_39, w200_42, w200_43, w200_46, w200_47, w200_49, w200_52, w200_53, w200_54, w200_57, w200_58, w200_59, w200_62, w200_65, w200_66, w200_67, w200_70, w200_73, w200_74, w200_75, w200_78, w200_79, w200_80, w200_83, Ko_n, Ko_v, vX_i, vX_r, vX_l, vX_j, reduceIte]
        rw [c192 hO (Lo_k hL2 hk).1 (kO_9 hO (Lo_k hL2 hk) hn9.2)]
        simp (disch := (first | assumption | omega | exact Nat.le_of_ble_eq_true rfl | rfl)) only [w200_0, w200_1, w200_4, w200_7, w200_8, w200_9, w200_12, w200_13, w200_14, w200_15, w200_18, w200_19, w200_21, w200_22, w200_23, w200_26, w200_29, w200_30, w200_32, w200_35, w200_38, w200_39, w200_42, w200_43, w200_46, w200_47, w200_49, w200_52, w200_53, w200_54, w200_57, w200_58, w200_59, w200_62, w200_65, w200_66, w200_67, w200_70, w200_73, w200_74, w200_75, w200_78, w200_79, w200_80, w200_83, Ko_n, Ko_v, vX_i, vX_r, vX_l, vX_j, reduceIte]
    · rw [if_neg hw, if_neg hw]
      have hO := (rdOn_O hf hs).1
      have hL2 := Lo_rd hf hs
      simp (disch := (first | assumption | omega | exact Nat.le_of_ble_eq_true rfl | rfl)) only [w200_0, w200_1, w200_4, w200_7, w200_8, w200_9, w200_12, w200_13, w200_14, w200_15, w200_18, w200_19, w200_21, w200_22, w200_23, w200_26, w200_29, w200_30, w200_32, w200_35, w200_38, w200_39, w200_42, w200_43, w200_46, w200_47, w200_49, w200_52, w200_53, w200_54, w200_57, w200_58, w200_59, w200_62, w200_65, w200_66, w200_67, w200_70, w200_73, w200_74, w200_75, w200_78, w200_79, w200_80, w200_83, Ko_n, Ko_v, vX_i, vX_r, vX_l, vX_j, reduceIte, hw]
      rw [c192 hO (Lo_k hL2 hk).1 (kO_9 hO (Lo_k hL2 hk) hn9.2)]
      simp (disch := (first | assumption | omega | exact Nat.le_of_ble_eq_true rfl | rfl)) only [w200_0, w200_1, w200_4, w200_7, w200_8, w200_9, w200_12, w200_13, w200_14, w200_15, w200_18, w200_19, w200_21, w200_22, w200_23, w200_26, w200_29, w200_30, w200_32, w200_35, w200_38, w200_39, w200_42, w200_43, w200_46, w200_47, w200_49, w200_52, w200_53, w200_54, w200_57, w200_58, w200_59, w200_62, w200_65, w200_66, w200_67, w200_70, w200_73, w200_74, w200_75, w200_78, w200_79, w200_80, w200_83, Ko_n, Ko_v, vX_i, vX_r, vX_l, vX_j, reduceIte]
  · rw [if_neg hb]
    simp (disch := (first | assumption | omega | exact Nat.le_of_ble_eq_true rfl | rfl)) only [w200_0, w200_1, w200_4, w200_7, w200_8, w200_9, w200_12, w200_13, w200_14, w200_15, w200_18, w200_19, w200_21, w200_22, w200_23, w200_26, w200_29, w200_30, w200_32, w200_35, w200_38, w200_39, w200_42, w200_43, w200_46, w200_47, w200_49, w200_52, w200_53, w200_54, w200_57, w200_58, w200_59, w200_62, w200_65, w200_66, w200_67, w200_70, w200_73, w200_74, w200_75, w200_78, w200_79, w200_80, w200_83, Ko_n, Ko_v, vX_i, vX_r, vX_l, vX_j, reduceIte, pS_B, hb]
theorem lpG_0 {n : Int} {c : Ps → Bool} {b : Ps → Ps} {s : Ps} (h : c s = false) : ∀ m : Nat, lpG c b m s = s
  | 0 => rfl
  | m + 1 => by simp only [lpG]; rw [h]; rfl
theorem sg_ed {n c : Int} {s : Ps} (hs : pO n s) (c0 : c ≠ 0) (h : pB s = 0 → n - pG s ≤ 0) : isSg c s = false := by
  refine decide_eq_false fun w => ?_
  have h1 := h w.1
  have h2 := hs.2.2.2.2.1 w.1 (by omega)
  have h3 := hs.2.2.1
  omega
theorem wd_ed {n : Int} {f : Int → Int} {i : Nat} {s : Ps} (hs : pO n s) (h : pB s = 0 → n - pG s ≤ 0) : isWd f i s = false := by
  cases e : isWd f i s with
  | false => rfl
  | true =>
    exfalso
    have w := isWd_h e
    have h1 := h w.1
    have h2 := hs.2.2.2.2.1 w.1 (by omega)
    have h3 := hs.2.2.1
    omega
/-- a body leads on -/
theorem lp_on {f : Int → Int} {n D c : Int} {F : Ps → Ps} {m : Nat} (hf : tpOk f n) (hF : rL n D F) {s : Ps} (hs : pO n s) (hk : kO s) (hd : pD s = D) (hD : D ≤ 6) (hb : pB s = 0) (ht : pT s ≠ 0) (hm : n - pG s ≤ ((m + 1 : Nat) : Int)) : Lo n 0 s (lay c (F (rdOn f n s))) ∧ (pB (lay c (F (rdOn f n s))) = 0 → n - pG (lay c (F (rdOn f n s))) ≤ (m : Int)) := by
  have h1 := Lo_body (c := c) hf (fun s a b e => hF s a b e (fun z => by omega)) hs hk hd hb ht
  refine ⟨h1, fun e => ?_⟩
  have h2 := rdOn_O hf hs
  have h3 := hs.2.2.2.2.1 hb ht
  have h4 := hF _ h2.1 (Lo_k (Lo_rd hf hs) hk) hd (fun z => by omega)
  have e2 : pB (F (rdOn f n s)) = 0 ∧ pG (lay c (F (rdOn f n s))) = pG (F (rdOn f n s)) := by
    unfold lay at e ⊢
    split
    · rename_i e3; exact ⟨e3, rfl⟩
    · rename_i e3; rw [if_neg e3] at e; exact absurd e e3
  have h5 := h4.2.2.2.2 e2.1
  rw [e2.2]
  omega
theorem c198 {e : Nat} {n D : Int} {f : Int → Int} {T : Tt} {σ : St} {F : Ps → Ps} (hF : σ 1205 382 = f) (hn : σ 1207 382 0 = n) (hf : tpOk f n) (D1 : D ≤ 6) (hL : rL n D F) (hC : rC T σ n D 200 (e + 10) F) : rC T σ n D 198 (e + 11) (fun s => lpG (isSg 42) (fun s => lay 12 (F (rdOn f n s))) 901 (F s)) := by
  intro d k Q s hs hk hd h7
  have h0 := ob_md
  have hn9 := hf.2
  have loop : ∀ (m : Nat) (s : Ps), pO n s → kO s → pD s = D → (pB s = 0 → n - pG s ≤ m) → Wp (d + e + 11) M_X12_readTerm 4 [.ref 382] [] (E T (pS σ s)) Q = Q (.inl none) (E T (pS σ (lpG (isSg 42) (fun s => lay 12 (F (rdOn f n s))) m s))) := by
    intro m
    induction m with
    | zero =>
      intro s hs hk hd hm
      simp (disch := omega) only [w198_4]
      simp (disch := (first | assumption | omega | exact Nat.le_of_ble_eq_true rfl | rfl)) only [w198_0, w198_1, w198_5, w198_7, w198_10, w198_13, w198_14, w198_17, w198_18, w198_21, w198_22, w198_24, w198_27, w198_30, Ko_n, Ko_v, vX_i, vX_r, vX_l, vX_j, reduceIte, c188 hs (show (0 : Int) ≤ 42 by omega) (show (42 : Int) ≤ 255 by omega), sg_ed hs (show (42 : Int) ≠ 0 by omega) hm, Bool.false_eq_true]
      rfl
    | succ m ih =>
      intro s hs hk hd hm
      simp (disch := omega) only [w198_4]
      simp (disch := (first | assumption | omega | exact Nat.le_of_ble_eq_true rfl | rfl)) only [w198_0, w198_1, w198_5, w198_7, w198_10, w198_13, w198_14, w198_17, w198_18, w198_21, w198_22, w198_24, w198_27, w198_30, Ko_n, Ko_v, vX_i, vX_r, vX_l, vX_j, reduceIte, c188 hs (show (0 : Int) ≤ 42 by omega) (show (42 : Int) ≤ 255 by omega)]
      cases hz : isSg 42 s with
      | false =>
        rw [lpG_0 (n := n) hz]
        simp (disch := (first | assumption | omega | exact Nat.le_of_ble_eq_true rfl | rfl)) only [w198_0, w198_1, w198_5, w198_7, w198_10, w198_13, w198_14, w198_17, w198_18, w198_21, w198_22, w198_24, w198_27, w198_30, Ko_n, Ko_v, vX_i, vX_r, vX_l, vX_j, reduceIte, Bool.false_eq_true]
      | true =>
        have hh := isSg_h hz
        have on := lp_on (c := 12) (m := m) hf hL hs hk hd D1 hh.1 (by omega) (hm hh.1)
        have ih' := ih _ on.1.1 (Lo_k on.1 hk) (by rw [on.1.2.1]; omega) on.2
        have r := rdOn_O hf hs
        have rk := Lo_k (Lo_rd hf hs) hk
        have b := hL _ r.1 rk hd (fun z => by omega)
        have hc := fun k Q => hC d k Q _ r.1 rk hd (fun z => by omega)
        rw [show d + (e + 10) = d + e + 10 by omega] at hc
        rw [show lpG (isSg 42) (fun s => lay 12 (F (rdOn f n s))) (m + 1) s = lpG (isSg 42) (fun s => lay 12 (F (rdOn f n s))) m (lay 12 (F (rdOn f n s))) by simp only [lpG]; rw [if_pos hz]]
        simp (disch := (first | assumption | omega | exact Nat.le_of_ble_eq_true rfl | rfl)) only [w198_0, w198_1, w198_5, w198_7, w198_10, w198_13, w198_14, w198_17, w198_18, w198_21, w198_22, w198_24, w198_27, w198_30, Ko_n, Ko_v, vX_i, vX_r, vX_l, vX_j, reduceIte, Int.reduceEq]
        rw [c184 hF hn hf hs]
        simp (disch := (first | assumption | omega | exact Nat.le_of_ble_eq_true rfl | rfl)) only [w198_0, w198_1, w198_5, w198_7, w198_10, w198_13, w198_14, w198_17, w198_18, w198_21, w198_22, w198_24, w198_27, w198_30, Ko_n, Ko_v, vX_i, vX_r, vX_l, vX_j, reduceIte]
        rw [hc]
        simp (disch := (first | assumption | omega | exact Nat.le_of_ble_eq_true rfl | rfl)) only [w198_0, w198_1, w198_5, w198_7, w198_10, w198_13, w198_14, w198_17, w198_18, w198_21, w198_22, w198_24, w198_27, w198_30, Ko_n, Ko_v, vX_i, vX_r, vX_l, vX_j, reduceIte]
        rw [c192 b.1 (Lo_k b rk).1 (kO_9 b.1 (Lo_k b rk) hn9.2)]
        simp (disch := (first | assumption | omega | exact Nat.le_of_ble_eq_true rfl | rfl)) only [w198_0, w198_1, w198_5, w198_7, w198_10, w198_13, w198_14, w198_17, w198_18, w198_21, w198_22, w198_24, w198_27, w198_30, Ko_n, Ko_v, vX_i, vX_r, vX_l, vX_j, reduceIte]
        exact ih'
  have hc := fun k Q => hC d k Q s hs hk hd h7
  rw [show d + (e + 10) = d + e + 10 by omega] at hc
  have b := hL s hs hk hd h7
  have b3 := b.1.2.2.1
  rw [show d + (e + 11) = d + e + 11 by omega, n198 _ _ _ _ _ _ h0]
  simp (disch := (first | assumption | omega | exact Nat.le_of_ble_eq_true rfl | rfl)) only [w198_0, w198_1, w198_5, w198_7, w198_10, w198_13, w198_14, w198_17, w198_18, w198_21, w198_22, w198_24, w198_27, w198_30, Ko_n, Ko_v, vX_i, vX_r, vX_l, vX_j, reduceIte]
  rw [hc]
  simp (disch := (first | assumption | omega | exact Nat.le_of_ble_eq_true rfl | rfl)) only [w198_0, w198_1, w198_5, w198_7, w198_10, w198_13, w198_14, w198_17, w198_18, w198_21, w198_22, w198_24, w198_27, w198_30, Ko_n, Ko_v, vX_i, vX_r, vX_l, vX_j, reduceIte]
  exact loop 901 _ b.1 (Lo_k b hk) (by rw [b.2.1]; omega) (fun _ => by omega)
theorem c197 {e : Nat} {n D : Int} {f : Int → Int} {T : Tt} {σ : St} {F : Ps → Ps} (hF : σ 1205 382 = f) (hn : σ 1207 382 0 = n) (hf : tpOk f n) (D1 : D ≤ 6) (hL : rL n D F) (hC : rC T σ n D 198 (e + 11) F) : rC T σ n D 197 (e + 12) (fun s => lpG (fun s => isSg 43 s || isSg 45 s) (fun s => lay (if pT s = 43 then 10 else 11) (F (rdOn f n s))) 901 (F s)) := by
  intro d k Q s hs hk hd h7
  have h0 := ob_md
  have hn9 := hf.2
  have loop : ∀ (m : Nat) (s : Ps) (l1 : Value), pO n s → kO s → pD s = D → (pB s = 0 → n - pG s ≤ m) → Wp (d + e + 12) M_X12_readSum 4 [.ref 382, l1] [] (E T (pS σ s)) Q = Q (.inl none) (E T (pS σ (lpG (fun s => isSg 43 s || isSg 45 s) (fun s => lay (if pT s = 43 then 10 else 11) (F (rdOn f n s))) m s))) := by
    intro m
    induction m with
    | zero =>
      intro s l1 hs hk hd hm
      simp (disch := omega) only [w197_4]
      simp (disch := (first | assumption | omega | exact Nat.le_of_ble_eq_true rfl | rfl)) only [w197_0, w197_1, w197_5, w197_7, w197_10, w197_13, w197_14, w197_16, w197_19, w197_22, w197_23, w197_26, w197_27, w197_28, w197_31, w197_32, w197_35, w197_36, w197_37, w197_39, w197_42, w197_44, w197_47, w197_49, w197_52, w197_55, Ko_n, Ko_v, vX_i, vX_r, vX_l, vX_j, reduceIte, c188 hs (show (0 : Int) ≤ 43 by omega) (show (43 : Int) ≤ 255 by omega), sg_ed hs (show (43 : Int) ≠ 0 by omega) hm, Bool.false_eq_true, not_true, c188 hs (show (0 : Int) ≤ 45 by omega) (show (45 : Int) ≤ 255 by omega), sg_ed hs (show (45 : Int) ≠ 0 by omega) hm]
      rfl
    | succ m ih =>
      intro s l1 hs hk hd hm
      simp (disch := omega) only [w197_4]
      simp (disch := (first | assumption | omega | exact Nat.le_of_ble_eq_true rfl | rfl)) only [w197_5, w197_7, Ko_n, Ko_v, vX_i, vX_r, vX_l, vX_j, reduceIte, c188 hs (show (0 : Int) ≤ 43 by omega) (show (43 : Int) ≤ 255 by omega)]
      have go : (pT s = 43 ∨ pT s = 45) → pB s = 0 → Wp (d + e + 11 + 1) M_X12_readSum 22 [.ref 382, l1] [] (E T (pS σ s)) Q = Q (.inl none) (E T (pS σ (lpG (fun s => isSg 43 s || isSg 45 s) (fun s => lay (if pT s = 43 then 10 else 11) (F (rdOn f n s))) m (lay (if pT s = 43 then 10 else 11) (F (rdOn f n s)))))) := by
        intro ht hb
        have on := lp_on (c := if pT s = 43 then 10 else 11) (m := m) hf hL hs hk hd D1 hb (by omega) (hm hb)
        have ih' := fun l1 => ih _ l1 on.1.1 (Lo_k on.1 hk) (by rw [on.1.2.1]; omega) on.2
        have r := rdOn_O hf hs
        have rk := Lo_k (Lo_rd hf hs) hk
        have b := hL _ r.1 rk hd (fun z => by omega)
        have hc := fun k Q => hC d k Q _ r.1 rk hd (fun z => by omega)
        rw [show d + (e + 11) = d + e + 11 by omega] at hc
        simp (disch := (first | assumption | omega | exact Nat.le_of_ble_eq_true rfl | rfl)) only [w197_0, w197_1, w197_5, w197_7, w197_10, w197_13, w197_14, w197_16, w197_19, w197_22, w197_23, w197_26, w197_27, w197_28, w197_31, w197_32, w197_35, w197_36, w197_37, w197_39, w197_42, w197_44, w197_47, w197_49, w197_52, w197_55, Ko_n, Ko_v, vX_i, vX_r, vX_l, vX_j, reduceIte, pS_T]
        rw [c184 hF hn hf hs]
        simp (disch := (first | assumption | omega | exact Nat.le_of_ble_eq_true rfl | rfl)) only [w197_0, w197_1, w197_5, w197_7, w197_10, w197_13, w197_14, w197_16, w197_19, w197_22, w197_23, w197_26, w197_27, w197_28, w197_31, w197_32, w197_35, w197_36, w197_37, w197_39, w197_42, w197_44, w197_47, w197_49, w197_52, w197_55, Ko_n, Ko_v, vX_i, vX_r, vX_l, vX_j, reduceIte]
        rw [hc]
        rcases ht with ht | ht
        · rw [if_pos ht] at ih' ⊢
          simp (disch := (first | assumption | omega | exact Nat.le_of_ble_eq_true rfl | rfl)) only [w197_0, w197_1, w197_5, w197_7, w197_10, w197_13, w197_14, w197_16, w197_19, w197_22, w197_23, w197_26, w197_27, w197_28, w197_31, w197_32, w197_35, w197_36, w197_37, w197_39, w197_42, w197_44, w197_47, w197_49, w197_52, w197_55, Ko_n, Ko_v, vX_i, vX_r, vX_l, vX_j, reduceIte, ht, not_true]
          rw [c192 b.1 (Lo_k b rk).1 (kO_9 b.1 (Lo_k b rk) hn9.2)]
          simp (disch := (first | assumption | omega | exact Nat.le_of_ble_eq_true rfl | rfl)) only [w197_0, w197_1, w197_5, w197_7, w197_10, w197_13, w197_14, w197_16, w197_19, w197_22, w197_23, w197_26, w197_27, w197_28, w197_31, w197_32, w197_35, w197_36, w197_37, w197_39, w197_42, w197_44, w197_47, w197_49, w197_52, w197_55, Ko_n, Ko_v, vX_i, vX_r, vX_l, vX_j, reduceIte]
          exact ih' _
        · rw [if_neg (by omega)] at ih' ⊢
          simp (disch := (first | assumption | omega | exact Nat.le_of_ble_eq_true rfl | rfl)) only [w197_0, w197_1, w197_5, w197_7, w197_10, w197_13, w197_14, w197_16, w197_19, w197_22, w197_23, w197_26, w197_27, w197_28, w197_31, w197_32, w197_35, w197_36, w197_37, w197_39, w197_42, w197_44, w197_47, w197_49, w197_52, w197_55, Ko_n, Ko_v, vX_i, vX_r, vX_l, vX_j, reduceIte, ht, Int.reduceEq, not_false_eq_true]
          rw [c192 b.1 (Lo_k b rk).1 (kO_9 b.1 (Lo_k b rk) hn9.2)]
          simp (disch := (first | assumption | omega | exact Nat.le_of_ble_eq_true rfl | rfl)) only [w197_0, w197_1, w197_5, w197_7, w197_10, w197_13, w197_14, w197_16, w197_19, w197_22, w197_23, w197_26, w197_27, w197_28, w197_31, w197_32, w197_35, w197_36, w197_37, w197_39, w197_42, w197_44, w197_47, w197_49, w197_52, w197_55, Ko_n, Ko_v, vX_i, vX_r, vX_l, vX_j, reduceIte]
          exact ih' _
      cases hz : isSg 43 s with
      | true =>
        have hh := isSg_h hz
        rw [show lpG (fun s => isSg 43 s || isSg 45 s) (fun s => lay (if pT s = 43 then 10 else 11) (F (rdOn f n s))) (m + 1) s = lpG (fun s => isSg 43 s || isSg 45 s) (fun s => lay (if pT s = 43 then 10 else 11) (F (rdOn f n s))) m (lay (if pT s = 43 then 10 else 11) (F (rdOn f n s))) by simp only [lpG]; rw [if_pos (by rw [hz]; rfl)]]
        simp (disch := (first | assumption | omega | exact Nat.le_of_ble_eq_true rfl | rfl)) only [w197_5, w197_7, w197_10, w197_13, w197_14, w197_16, w197_19, Ko_n, Ko_v, vX_i, vX_r, vX_l, vX_j, reduceIte, Int.reduceEq, not_false_eq_true]
        exact go (Or.inl hh.2) hh.1
      | false =>
        simp (disch := (first | assumption | omega | exact Nat.le_of_ble_eq_true rfl | rfl)) only [w197_5, w197_7, w197_10, w197_13, w197_14, w197_16, w197_19, Ko_n, Ko_v, vX_i, vX_r, vX_l, vX_j, reduceIte, Bool.false_eq_true, not_true, c188 hs (show (0 : Int) ≤ 45 by omega) (show (45 : Int) ≤ 255 by omega)]
        cases hy : isSg 45 s with
        | true =>
          have hh := isSg_h hy
          rw [show lpG (fun s => isSg 43 s || isSg 45 s) (fun s => lay (if pT s = 43 then 10 else 11) (F (rdOn f n s))) (m + 1) s = lpG (fun s => isSg 43 s || isSg 45 s) (fun s => lay (if pT s = 43 then 10 else 11) (F (rdOn f n s))) m (lay (if pT s = 43 then 10 else 11) (F (rdOn f n s))) by simp only [lpG]; rw [if_pos (by rw [hy, Bool.or_true])]]
          simp (disch := (first | assumption | omega | exact Nat.le_of_ble_eq_true rfl | rfl)) only [w197_5, w197_7, w197_10, w197_13, w197_14, w197_16, w197_19, Ko_n, Ko_v, vX_i, vX_r, vX_l, vX_j, reduceIte, Int.reduceEq]
          exact go (Or.inr hh.2) hh.1
        | false =>
          rw [lpG_0 (n := n) (by show (isSg 43 s || isSg 45 s) = false; rw [hz, hy]; rfl)]
          simp (disch := (first | assumption | omega | exact Nat.le_of_ble_eq_true rfl | rfl)) only [w197_0, w197_1, w197_5, w197_7, w197_10, w197_13, w197_14, w197_16, w197_19, w197_22, w197_23, w197_26, w197_27, w197_28, w197_31, w197_32, w197_35, w197_36, w197_37, w197_39, w197_42, w197_44, w197_47, w197_49, w197_52, w197_55, Ko_n, Ko_v, vX_i, vX_r, vX_l, vX_j, reduceIte, Bool.false_eq_true]
  have hc := fun k Q => hC d k Q s hs hk hd h7
  rw [show d + (e + 11) = d + e + 11 by omega] at hc
  have b := hL s hs hk hd h7
  have b3 := b.1.2.2.1
  rw [show d + (e + 12) = d + e + 12 by omega, n197 _ _ _ _ _ _ h0]
  simp (disch := (first | assumption | omega | exact Nat.le_of_ble_eq_true rfl | rfl)) only [w197_0, w197_1, w197_5, w197_7, w197_10, w197_13, w197_14, w197_16, w197_19, w197_22, w197_23, w197_26, w197_27, w197_28, w197_31, w197_32, w197_35, w197_36, w197_37, w197_39, w197_42, w197_44, w197_47, w197_49, w197_52, w197_55, Ko_n, Ko_v, vX_i, vX_r, vX_l, vX_j, reduceIte]
  rw [hc]
  simp (disch := (first | assumption | omega | exact Nat.le_of_ble_eq_true rfl | rfl)) only [w197_0, w197_1, w197_5, w197_7, w197_10, w197_13, w197_14, w197_16, w197_19, w197_22, w197_23, w197_26, w197_27, w197_28, w197_31, w197_32, w197_35, w197_36, w197_37, w197_39, w197_42, w197_44, w197_47, w197_49, w197_52, w197_55, Ko_n, Ko_v, vX_i, vX_r, vX_l, vX_j, reduceIte]
  exact loop 901 _ _ b.1 (Lo_k b hk) (by rw [b.2.1]; omega) (fun _ => by omega)
