/-! ===== the reference reads lines: walkers, errands ===== -/
theorem c204 {d : Nat} {k n : Int} {f : Int → Int} {T : Tt} {σ : St} {s : Ps} {Q : vmO → vmH → Prop} (hF : σ 1205 382 = f) (hn : σ 1207 382 0 = n) (hf : tpOk f n) (hs : pO n s) (ht : tW (pK s)) (hc4 : ∀ j, 0 ≤ j → j < 36 → 0 ≤ pK s (7 + j) ∧ pK s (7 + j) ≤ 4) : Ca (d + 6) k 204 [.ref 382] (E T (pS σ s)) Q = Q (.inl none) (E T (pS σ (wkr f n s))) := by
  have h0 := ob_md
  have e1 := ht.1
  have e2 := ht.2.1
  have e3 := ht.2.2.1
  have hm := wh_mul (W := pK s 1) (H := pK s 2) ⟨e1.1, e1.2, e2.1, e2.2⟩
  rw [n204 _ _ _ _ _ _ h0]
  unfold wkr
  dsimp only
  generalize hs1 : rdO f n (if pK s 3 = 5 then blm 4 s else s) = s1
  have m1 : Mv n s s1 := by
    rw [← hs1]
    split
    · exact Mv_t (Mv_bl hs (by omega) (by omega)) (Mv_rO hf (Mv_bl hs (by omega) (by omega)).1)
    · exact Mv_rO hf hs
  have st : Wp (d + 6) M_X12_readWalker 26 [.ref 382, vmJ, vmJ, vmJ, vmJ] [] (E T (pS σ s1)) Q → Wp (d + 6) M_X12_readWalker 0 [.ref 382, vmJ, vmJ, vmJ, vmJ] [] (E T (pS σ s)) Q := by
    have md : ∀ t : Ps, pO n t → Wp (d + 6) M_X12_readWalker 15 [.ref 382, vmJ, vmJ, vmJ, vmJ] [] (E T (pS σ t)) Q = Wp (d + 6) M_X12_readWalker 26 [.ref 382, vmJ, vmJ, vmJ, vmJ] [] (E T (pS σ (rdO f n t))) Q := by
      intro t hm2
      have hb := hm2.1
      unfold rdO
      by_cases e : pB t = 0
      · rw [if_pos e]
        simp (disch := (first | assumption | omega | exact Nat.le_of_ble_eq_true rfl | rfl)) only [w204_15, w204_16, w204_19, w204_22, w204_23, Ko_n, Ko_v, vX_i, vX_r, vX_l, vX_j, reduceIte, pS_B, e, not_true]
        rw [c184 hF hn hf hm2]
        simp (disch := (first | assumption | omega | exact Nat.le_of_ble_eq_true rfl | rfl)) only [w204_15, w204_16, w204_19, w204_22, w204_23, Ko_n, Ko_v, vX_i, vX_r, vX_l, vX_j, reduceIte]
      · rw [if_neg e]
        simp (disch := (first | assumption | omega | exact Nat.le_of_ble_eq_true rfl | rfl)) only [w204_15, w204_16, w204_19, w204_22, w204_23, Ko_n, Ko_v, vX_i, vX_r, vX_l, vX_j, reduceIte, pS_B, e, not_false_eq_true]
    rw [← hs1]
    intro hg
    by_cases e : pK s 3 = 5
    · rw [if_pos e] at hg
      simp (disch := (first | assumption | omega | exact Nat.le_of_ble_eq_true rfl | rfl)) only [w204_0, w204_1, w204_4, w204_5, w204_6, w204_7, w204_10, w204_11, w204_12, Ko_n, Ko_v, vX_i, vX_r, vX_l, vX_j, reduceIte, pS_K, e, not_true]
      rw [c185 hs]
      simp (disch := (first | assumption | omega | exact Nat.le_of_ble_eq_true rfl | rfl)) only [w204_0, w204_1, w204_4, w204_5, w204_6, w204_7, w204_10, w204_11, w204_12, Ko_n, Ko_v, vX_i, vX_r, vX_l, vX_j, reduceIte]
      rw [md _ (blm_O hs (by omega) (by omega)).1]
      exact hg
    · rw [if_neg e] at hg
      simp (disch := (first | assumption | omega | exact Nat.le_of_ble_eq_true rfl | rfl)) only [w204_0, w204_1, w204_4, w204_5, w204_6, w204_7, w204_10, w204_11, w204_12, Ko_n, Ko_v, vX_i, vX_r, vX_l, vX_j, reduceIte, pS_K, e, not_false_eq_true]
      rw [md _ hs]
      exact hg
  have st2 : Wp (d + 6) M_X12_readWalker 0 [.ref 382, vmJ, vmJ, vmJ, vmJ] [] (E T (pS σ s)) Q = Wp (d + 6) M_X12_readWalker 26 [.ref 382, vmJ, vmJ, vmJ, vmJ] [] (E T (pS σ s1)) Q := by
    clear st
    have md : ∀ t : Ps, pO n t → Wp (d + 6) M_X12_readWalker 15 [.ref 382, vmJ, vmJ, vmJ, vmJ] [] (E T (pS σ t)) Q = Wp (d + 6) M_X12_readWalker 26 [.ref 382, vmJ, vmJ, vmJ, vmJ] [] (E T (pS σ (rdO f n t))) Q := by
      intro t hm2
      have hb := hm2.1
      unfold rdO
      by_cases e : pB t = 0
      · rw [if_pos e]
        simp (disch := (first | assumption | omega | exact Nat.le_of_ble_eq_true rfl | rfl)) only [w204_15, w204_16, w204_19, w204_22, w204_23, Ko_n, Ko_v, vX_i, vX_r, vX_l, vX_j, reduceIte, pS_B, e, not_true]
        rw [c184 hF hn hf hm2]
        simp (disch := (first | assumption | omega | exact Nat.le_of_ble_eq_true rfl | rfl)) only [w204_15, w204_16, w204_19, w204_22, w204_23, Ko_n, Ko_v, vX_i, vX_r, vX_l, vX_j, reduceIte]
      · rw [if_neg e]
        simp (disch := (first | assumption | omega | exact Nat.le_of_ble_eq_true rfl | rfl)) only [w204_15, w204_16, w204_19, w204_22, w204_23, Ko_n, Ko_v, vX_i, vX_r, vX_l, vX_j, reduceIte, pS_B, e, not_false_eq_true]
    rw [← hs1]
    by_cases e : pK s 3 = 5
    · rw [if_pos e]
      simp (disch := (first | assumption | omega | exact Nat.le_of_ble_eq_true rfl | rfl)) only [w204_0, w204_1, w204_4, w204_5, w204_6, w204_7, w204_10, w204_11, w204_12, Ko_n, Ko_v, vX_i, vX_r, vX_l, vX_j, reduceIte, pS_K, e, not_true]
      rw [c185 hs]
      simp (disch := (first | assumption | omega | exact Nat.le_of_ble_eq_true rfl | rfl)) only [w204_0, w204_1, w204_4, w204_5, w204_6, w204_7, w204_10, w204_11, w204_12, Ko_n, Ko_v, vX_i, vX_r, vX_l, vX_j, reduceIte]
      rw [md _ (blm_O hs (by omega) (by omega)).1]
    · rw [if_neg e]
      simp (disch := (first | assumption | omega | exact Nat.le_of_ble_eq_true rfl | rfl)) only [w204_0, w204_1, w204_4, w204_5, w204_6, w204_7, w204_10, w204_11, w204_12, Ko_n, Ko_v, vX_i, vX_r, vX_l, vX_j, reduceIte, pS_K, e, not_false_eq_true]
      rw [md _ hs]
  rw [st2]
  clear st st2 hs1
  have hb1 := m1.1.1
  have hK1 := m1.2.1
  by_cases e4 : pB s1 = 0
  · rw [if_pos e4]
    have mx := Mv_nm (lo := 0) (hi := pK s 1 - 1) hf m1.1
    have vx := (nmb_v (f := f) (lo := 0) (hi := pK s 1 - 1) m1.1).2.1 (by omega)
    have hKx := mx.2.1
    rw [hK1] at hKx
    have hbx := mx.1.1
    have htx := mx.1.2.1
    have hvx := mx.1.2.2.2.1
    simp (disch := (first | assumption | omega | exact Nat.le_of_ble_eq_true rfl | rfl)) only [w204_26, w204_27, w204_30, w204_33, w204_34, w204_35, w204_38, w204_39, w204_40, w204_41, w204_42, w204_43, w204_44, w204_47, w204_48, w204_49, w204_50, w204_51, w204_54, Ko_n, Ko_v, vX_i, vX_r, vX_l, vX_j, reduceIte, pS_B, pS_K, hK1, e4]
    rw [c190 hF hn hf m1.1 (by omega) (by omega) (by omega) (by omega)]
    simp (disch := (first | assumption | omega | exact Nat.le_of_ble_eq_true rfl | rfl)) only [w204_26, w204_27, w204_30, w204_33, w204_34, w204_35, w204_38, w204_39, w204_40, w204_41, w204_42, w204_43, w204_44, w204_47, w204_48, w204_49, w204_50, w204_51, w204_54, Ko_n, Ko_v, vX_i, vX_r, vX_l, vX_j, reduceIte]
    generalize hx : nmb f n 0 (pK s 1 - 1) s1 = x at *
    generalize hs2 : (if pB x.2 = 0 ∧ pT x.2 = 2 ∧ pV x.2 < pK s 2 ∧ pK s (7 + pK s 1 * pV x.2 + x.1) = 4 then blm 3 x.2 else x.2) = s2
    have m2 : Mv n s s2 := by
      rw [← hs2]
      split
      · exact Mv_t m1 (Mv_t mx (Mv_bl mx.1 (by omega) (by omega)))
      · exact Mv_t m1 mx
    have st3 : Wp (d + 6) M_X12_readWalker 55 [.ref 382, .int (i32 (pK s 3)), .int (i32 x.1), vmJ, vmJ] [] (E T (pS σ x.2)) Q = Wp (d + 6) M_X12_readWalker 113 [.ref 382, .int (i32 (pK s 3)), .int (i32 x.1), vmJ, vmJ] [] (E T (pS σ s2)) Q := by
      rw [← hs2]
      by_cases a1 : pB x.2 = 0
      · by_cases a2 : pT x.2 = 2
        · by_cases a3 : pK s 2 ≤ pV x.2
          · rw [if_neg (fun w => by omega)]
            simp (disch := (first | assumption | omega | exact Nat.le_of_ble_eq_true rfl | rfl)) only [w204_55, w204_56, w204_59, w204_62, w204_63, w204_66, w204_67, w204_70, w204_71, w204_74, w204_75, w204_78, w204_79, w204_80, w204_83, w204_84, w204_87, w204_89, w204_90, w204_93, w204_94, w204_95, w204_96, w204_99, w204_100, w204_101, w204_102, w204_103, w204_104, w204_105, w204_108, w204_109, w204_110, Ko_n, Ko_v, vX_i, vX_r, vX_l, vX_j, reduceIte, pS_B, pS_T, pS_V, pS_K, hKx, a1, a2, a3, not_true]
          · have q1 : pK s 1 * pV x.2 ≤ pK s 1 * (pK s 2 - 1) := Int.mul_le_mul_of_nonneg_left (by omega) (by omega)
            have q2 : 0 ≤ pK s 1 * pV x.2 := Int.mul_nonneg (by omega) hvx.1
            rw [Int.mul_sub, Int.mul_one] at q1
            have q3 := hc4 (pK s 1 * pV x.2 + x.1) (by omega) (by omega)
            rw [show 7 + (pK s 1 * pV x.2 + x.1) = 7 + pK s 1 * pV x.2 + x.1 by omega] at q3
            by_cases a4 : pK s (7 + pK s 1 * pV x.2 + x.1) = 4
            · rw [if_pos ⟨a1, a2, by omega, a4⟩]
              simp (disch := (first | assumption | omega | exact Nat.le_of_ble_eq_true rfl | rfl)) only [w204_55, w204_56, w204_59, w204_62, w204_63, w204_66, w204_67, w204_70, w204_71, w204_74, w204_75, w204_78, w204_79, w204_80, w204_83, w204_84, w204_87, w204_89, w204_90, w204_93, w204_94, w204_95, w204_96, w204_99, w204_100, w204_101, w204_102, w204_103, w204_104, w204_105, w204_108, w204_109, w204_110, Ko_n, Ko_v, vX_i, vX_r, vX_l, vX_j, reduceIte, pS_B, pS_T, pS_V, pS_K, hKx, a1, a2, a3, a4, not_true]
              rw [c185 mx.1]
              simp (disch := (first | assumption | omega | exact Nat.le_of_ble_eq_true rfl | rfl)) only [w204_55, w204_56, w204_59, w204_62, w204_63, w204_66, w204_67, w204_70, w204_71, w204_74, w204_75, w204_78, w204_79, w204_80, w204_83, w204_84, w204_87, w204_89, w204_90, w204_93, w204_94, w204_95, w204_96, w204_99, w204_100, w204_101, w204_102, w204_103, w204_104, w204_105, w204_108, w204_109, w204_110, Ko_n, Ko_v, vX_i, vX_r, vX_l, vX_j, reduceIte]
            · rw [if_neg (fun w => a4 w.2.2.2)]
              simp (disch := (first | assumption | omega | exact Nat.le_of_ble_eq_true rfl | rfl)) only [w204_55, w204_56, w204_59, w204_62, w204_63, w204_66, w204_67, w204_70, w204_71, w204_74, w204_75, w204_78, w204_79, w204_80, w204_83, w204_84, w204_87, w204_89, w204_90, w204_93, w204_94, w204_95, w204_96, w204_99, w204_100, w204_101, w204_102, w204_103, w204_104, w204_105, w204_108, w204_109, w204_110, Ko_n, Ko_v, vX_i, vX_r, vX_l, vX_j, reduceIte, pS_B, pS_T, pS_V, pS_K, hKx, a1, a2, a3, a4, not_true, not_false_eq_true]
        · rw [if_neg (fun w => a2 w.2.1)]
          simp (disch := (first | assumption | omega | exact Nat.le_of_ble_eq_true rfl | rfl)) only [w204_55, w204_56, w204_59, w204_62, w204_63, w204_66, w204_67, w204_70, w204_71, w204_74, w204_75, w204_78, w204_79, w204_80, w204_83, w204_84, w204_87, w204_89, w204_90, w204_93, w204_94, w204_95, w204_96, w204_99, w204_100, w204_101, w204_102, w204_103, w204_104, w204_105, w204_108, w204_109, w204_110, Ko_n, Ko_v, vX_i, vX_r, vX_l, vX_j, reduceIte, pS_B, pS_T, a1, a2, not_true, not_false_eq_true]
      · rw [if_neg (fun w => a1 w.1)]
        simp (disch := (first | assumption | omega | exact Nat.le_of_ble_eq_true rfl | rfl)) only [w204_55, w204_56, w204_59, w204_62, w204_63, w204_66, w204_67, w204_70, w204_71, w204_74, w204_75, w204_78, w204_79, w204_80, w204_83, w204_84, w204_87, w204_89, w204_90, w204_93, w204_94, w204_95, w204_96, w204_99, w204_100, w204_101, w204_102, w204_103, w204_104, w204_105, w204_108, w204_109, w204_110, Ko_n, Ko_v, vX_i, vX_r, vX_l, vX_j, reduceIte, pS_B, a1, not_false_eq_true]
    rw [st3]
    clear st3 hs2 hx
    have hK2 := m2.2.1
    have my := Mv_nm (lo := 0) (hi := pK s 2 - 1) hf m2.1
    have vy := (nmb_v (f := f) (lo := 0) (hi := pK s 2 - 1) m2.1).2.1 (by omega)
    have hKy := my.2.1
    rw [hK2] at hKy
    simp (disch := (first | assumption | omega | exact Nat.le_of_ble_eq_true rfl | rfl)) only [w204_113, w204_114, w204_115, w204_116, w204_119, w204_120, w204_121, w204_122, w204_123, w204_126, Ko_n, Ko_v, vX_i, vX_r, vX_l, vX_j, reduceIte, pS_K, hK2]
    rw [c190 hF hn hf m2.1 (by omega) (by omega) (by omega) (by omega)]
    simp (disch := (first | assumption | omega | exact Nat.le_of_ble_eq_true rfl | rfl)) only [w204_113, w204_114, w204_115, w204_116, w204_119, w204_120, w204_121, w204_122, w204_123, w204_126, Ko_n, Ko_v, vX_i, vX_r, vX_l, vX_j, reduceIte]
    generalize nmb f n 0 (pK s 2 - 1) s2 = y at *
    generalize hs3 : (if isWd f 8 y.2 = true then stK2 (fu (pK s) 92 (oo (pK s 92) (sl 1 (pK s 3)))) (rdOn f n y.2) else y.2) = s3
    have o3 : pO n s3 ∧ ∀ j, j ≠ 92 → pK s3 j = pK s j := by
      rw [← hs3]
      split
      · exact ⟨(rdOn_O hf my.1).1, fun j hj => by show fu (pK s) 92 _ j = _; rw [fu_n hj]⟩
      · exact ⟨my.1, fun j _ => by rw [hKy]⟩
    have st4 : Wp (d + 6) M_X12_readWalker 127 [.ref 382, .int (i32 (pK s 3)), .int (i32 x.1), .int (i32 y.1), vmJ] [] (E T (pS σ y.2)) Q = Wp (d + 6) M_X12_readWalker 149 [.ref 382, .int (i32 (pK s 3)), .int (i32 x.1), .int (i32 y.1), vmJ] [] (E T (pS σ s3)) Q := by
      rw [← hs3]
      simp (disch := (first | assumption | omega | exact Nat.le_of_ble_eq_true rfl | rfl)) only [w204_127, w204_128, w204_130, Ko_n, Ko_v, vX_i, vX_r, vX_l, vX_j, reduceIte]
      rw [c187w (i := 8) rfl hF hn hf my.1 (by omega)]
      cases w : isWd f 8 y.2 with
      | true =>
        rw [tkW_t w, if_pos rfl]
        simp (disch := (first | assumption | omega | exact Nat.le_of_ble_eq_true rfl | rfl)) only [w204_127, w204_128, w204_130, w204_133, w204_136, w204_137, w204_140, w204_142, w204_143, w204_144, w204_145, w204_146, w204_147, w204_148, Ko_n, Ko_v, vX_i, vX_r, vX_l, vX_j, reduceIte, Int.reduceEq, pS_K, show pK (rdOn f n y.2) = pK s from hKy, pS_uK]
        rfl
      | false =>
        rw [tkW_f w]
        simp (disch := (first | assumption | omega | exact Nat.le_of_ble_eq_true rfl | rfl)) only [w204_127, w204_128, w204_130, w204_133, w204_136, w204_137, w204_140, w204_142, w204_143, w204_144, w204_145, w204_146, w204_147, w204_148, Ko_n, Ko_v, vX_i, vX_r, vX_l, vX_j, reduceIte, Bool.false_eq_true]
    rw [st4]
    clear st4 hs3
    generalize ha : (if isWd f 9 s3 = true then nmb f n 0 999 (rdOn f n s3) else (0, s3)) = a
    have oa : pO n a.2 ∧ pK a.2 = pK s3 := by
      rw [← ha]
      split
      · have := Mv_nm (lo := 0) (hi := 999) hf (rdOn_O hf o3.1).1
        exact ⟨this.1, this.2.1⟩
      · exact ⟨o3.1, rfl⟩
    have st5 : Wp (d + 6) M_X12_readWalker 149 [.ref 382, .int (i32 (pK s 3)), .int (i32 x.1), .int (i32 y.1), vmJ] [] (E T (pS σ s3)) Q = Wp (d + 6) M_X12_readWalker 172 [.ref 382, .int (i32 (pK s 3)), .int (i32 x.1), .int (i32 y.1), .int (i32 a.1)] [] (E T (pS σ a.2)) Q := by
      rw [← ha]
      simp (disch := (first | assumption | omega | exact Nat.le_of_ble_eq_true rfl | rfl)) only [w204_149, w204_150, w204_152, Ko_n, Ko_v, vX_i, vX_r, vX_l, vX_j, reduceIte]
      rw [c187w (i := 9) rfl hF hn hf o3.1 (by omega)]
      cases w : isWd f 9 s3 with
      | true =>
        rw [tkW_t w, if_pos rfl]
        simp (disch := (first | assumption | omega | exact Nat.le_of_ble_eq_true rfl | rfl)) only [w204_149, w204_150, w204_152, w204_155, w204_158, w204_159, w204_160, w204_163, w204_166, w204_169, w204_170, Ko_n, Ko_v, vX_i, vX_r, vX_l, vX_j, reduceIte, Int.reduceEq]
        rw [c190 hF hn hf (rdOn_O hf o3.1).1 (by omega) (by omega) (by omega) (by omega)]
        simp (disch := (first | assumption | omega | exact Nat.le_of_ble_eq_true rfl | rfl)) only [w204_149, w204_150, w204_152, w204_155, w204_158, w204_159, w204_160, w204_163, w204_166, w204_169, w204_170, Ko_n, Ko_v, vX_i, vX_r, vX_l, vX_j, reduceIte]
      | false =>
        rw [tkW_f w]
        simp (disch := (first | assumption | omega | exact Nat.le_of_ble_eq_true rfl | rfl)) only [w204_149, w204_150, w204_152, w204_155, w204_158, w204_159, w204_160, w204_163, w204_166, w204_169, w204_170, Ko_n, Ko_v, vX_i, vX_r, vX_l, vX_j, reduceIte, Bool.false_eq_true]
    rw [st5]
    clear st5 ha
    have hba := oa.1.1
    by_cases e5 : pB a.2 = 0
    · rw [if_pos e5]
      have k1 : pK a.2 1 = pK s 1 := by rw [oa.2, o3.2 1 (by omega)]
      have k3 : pK a.2 3 = pK s 3 := by rw [oa.2, o3.2 3 (by omega)]
      simp (disch := (first | assumption | omega | exact Nat.le_of_ble_eq_true rfl | rfl)) only [w204_0, w204_1, w204_4, w204_5, w204_6, w204_7, w204_10, w204_11, w204_12, w204_15, w204_16, w204_19, w204_22, w204_23, w204_26, w204_27, w204_30, w204_33, w204_34, w204_35, w204_38, w204_39, w204_40, w204_41, w204_42, w204_43, w204_44, w204_47, w204_48, w204_49, w204_50, w204_51, w204_54, w204_55, w204_56, w204_59, w204_62, w204_63, w204_66, w204_67, w204_70, w204_71, w204_74, w204_75, w204_78, w204_79, w204_80, w204_83, w204_84, w204_87, w204_89, w204_90, w204_93, w204_94, w204_95, w204_96, w204_99, w204_100, w204_101, w204_102, w204_103, w204_104, w204_105, w204_108, w204_109, w204_110, w204_113, w204_114, w204_115, w204_116, w204_119, w204_120, w204_121, w204_122, w204_123, w204_126, w204_127, w204_128, w204_130, w204_133, w204_136, w204_137, w204_140, w204_142, w204_143, w204_144, w204_145, w204_146, w204_147, w204_148, w204_149, w204_150, w204_152, w204_155, w204_158, w204_159, w204_160, w204_163, w204_166, w204_169, w204_170, w204_172, w204_173, w204_176, w204_179, w204_180, w204_181, w204_184, w204_186, w204_187, w204_188, w204_189, w204_192, w204_193, w204_194, w204_195, w204_196, w204_197, w204_198, w204_199, w204_200, w204_203, w204_205, w204_206, w204_207, w204_209, w204_210, w204_211, w204_214, w204_215, w204_216, w204_217, w204_218, w204_219, w204_220, Ko_n, Ko_v, vX_i, vX_r, vX_l, vX_j, reduceIte, pS_B, pS_K, e5, k1, pS_uK, pK_, pB_, pP_, pG_, pH_, pT_, pV_, pD_, fu_n (show (3 : Int) ≠ 79 + pK s 3 by omega), fu_n (show (3 : Int) ≠ 84 + pK s 3 by omega)]
      unfold stK2 wkS
      rw [e5]
    · rw [if_neg e5]
      simp (disch := (first | assumption | omega | exact Nat.le_of_ble_eq_true rfl | rfl)) only [w204_0, w204_1, w204_4, w204_5, w204_6, w204_7, w204_10, w204_11, w204_12, w204_15, w204_16, w204_19, w204_22, w204_23, w204_26, w204_27, w204_30, w204_33, w204_34, w204_35, w204_38, w204_39, w204_40, w204_41, w204_42, w204_43, w204_44, w204_47, w204_48, w204_49, w204_50, w204_51, w204_54, w204_55, w204_56, w204_59, w204_62, w204_63, w204_66, w204_67, w204_70, w204_71, w204_74, w204_75, w204_78, w204_79, w204_80, w204_83, w204_84, w204_87, w204_89, w204_90, w204_93, w204_94, w204_95, w204_96, w204_99, w204_100, w204_101, w204_102, w204_103, w204_104, w204_105, w204_108, w204_109, w204_110, w204_113, w204_114, w204_115, w204_116, w204_119, w204_120, w204_121, w204_122, w204_123, w204_126, w204_127, w204_128, w204_130, w204_133, w204_136, w204_137, w204_140, w204_142, w204_143, w204_144, w204_145, w204_146, w204_147, w204_148, w204_149, w204_150, w204_152, w204_155, w204_158, w204_159, w204_160, w204_163, w204_166, w204_169, w204_170, w204_172, w204_173, w204_176, w204_179, w204_180, w204_181, w204_184, w204_186, w204_187, w204_188, w204_189, w204_192, w204_193, w204_194, w204_195, w204_196, w204_197, w204_198, w204_199, w204_200, w204_203, w204_205, w204_206, w204_207, w204_209, w204_210, w204_211, w204_214, w204_215, w204_216, w204_217, w204_218, w204_219, w204_220, Ko_n, Ko_v, vX_i, vX_r, vX_l, vX_j, reduceIte, pS_B, e5]
  · rw [if_neg e4]
    simp (disch := (first | assumption | omega | exact Nat.le_of_ble_eq_true rfl | rfl)) only [w204_0, w204_1, w204_4, w204_5, w204_6, w204_7, w204_10, w204_11, w204_12, w204_15, w204_16, w204_19, w204_22, w204_23, w204_26, w204_27, w204_30, w204_33, w204_34, w204_35, w204_38, w204_39, w204_40, w204_41, w204_42, w204_43, w204_44, w204_47, w204_48, w204_49, w204_50, w204_51, w204_54, w204_55, w204_56, w204_59, w204_62, w204_63, w204_66, w204_67, w204_70, w204_71, w204_74, w204_75, w204_78, w204_79, w204_80, w204_83, w204_84, w204_87, w204_89, w204_90, w204_93, w204_94, w204_95, w204_96, w204_99, w204_100, w204_101, w204_102, w204_103, w204_104, w204_105, w204_108, w204_109, w204_110, w204_113, w204_114, w204_115, w204_116, w204_119, w204_120, w204_121, w204_122, w204_123, w204_126, w204_127, w204_128, w204_130, w204_133, w204_136, w204_137, w204_140, w204_142, w204_143, w204_144, w204_145, w204_146, w204_147, w204_148, w204_149, w204_150, w204_152, w204_155, w204_158, w204_159, w204_160, w204_163, w204_166, w204_169, w204_170, w204_172, w204_173, w204_176, w204_179, w204_180, w204_181, w204_184, w204_186, w204_187, w204_188, w204_189, w204_192, w204_193, w204_194, w204_195, w204_196, w204_197, w204_198, w204_199, w204_200, w204_203, w204_205, w204_206, w204_207, w204_209, w204_210, w204_211, w204_214, w204_215, w204_216, w204_217, w204_218, w204_219, w204_220, Ko_n, Ko_v, vX_i, vX_r, vX_l, vX_j, reduceIte, pS_B, e4]
theorem c205 {d : Nat} {k n : Int} {f : Int → Int} {T : Tt} {σ : St} {s : Ps} {Q : vmO → vmH → Prop} (hF : σ 1205 382 = f) (hn : σ 1207 382 0 = n) (hf : tpOk f n) (hs : pO n s) (ht : tW (pK s)) : Ca (d + 5) k 205 [.ref 382] (E T (pS σ s)) Q = Q (.inl none) (E T (pS σ (ern f n s))) := by
  have h0 := ob_md
  have e1 := ht.1
  have e2 := ht.2.1
  have e3 := ht.2.2.1
  have e4 := ht.2.2.2
  have hb := hs.1
  have hv := hs.2.2.2.1
  have htt := hs.2.1
  rw [n205 _ _ _ _ _ _ h0]
  unfold ern
  dsimp only
  generalize hs1 : (if pB s = 0 ∧ pT s = 2 ∧ pV s < pK s 3 ∧ pK s (93 + pV s) = 4 then blm 4 s else s) = s1
  have m1 : Mv n s s1 := by
    rw [← hs1]
    split
    · exact Mv_bl hs (by omega) (by omega)
    · exact Mv_r hs
  have st : Wp (d + 5) M_X12_readErrand 0 [.ref 382, vmJ, vmJ, vmJ] [] (E T (pS σ s)) Q = Wp (d + 5) M_X12_readErrand 49 [.ref 382, vmJ, vmJ, vmJ] [] (E T (pS σ s1)) Q := by
    rw [← hs1]
    by_cases a1 : pB s = 0
    · by_cases a2 : pT s = 2
      · by_cases a3 : pK s 3 ≤ pV s
        · rw [if_neg (fun w => by omega)]
          simp (disch := (first | assumption | omega | exact Nat.le_of_ble_eq_true rfl | rfl)) only [w205_0, w205_1, w205_4, w205_7, w205_8, w205_11, w205_12, w205_15, w205_16, w205_19, w205_20, w205_23, w205_24, w205_25, w205_28, w205_29, w205_32, w205_34, w205_35, w205_38, w205_39, w205_40, w205_41, w205_44, w205_45, w205_46, Ko_n, Ko_v, vX_i, vX_r, vX_l, vX_j, reduceIte, pS_B, pS_T, pS_V, pS_K, a1, a2, a3, not_true]
        · have q3 := e4 (pV s) (by omega) (by omega)
          by_cases a4 : pK s (93 + pV s) = 4
          · rw [if_pos ⟨a1, a2, by omega, a4⟩]
            simp (disch := (first | assumption | omega | exact Nat.le_of_ble_eq_true rfl | rfl)) only [w205_0, w205_1, w205_4, w205_7, w205_8, w205_11, w205_12, w205_15, w205_16, w205_19, w205_20, w205_23, w205_24, w205_25, w205_28, w205_29, w205_32, w205_34, w205_35, w205_38, w205_39, w205_40, w205_41, w205_44, w205_45, w205_46, Ko_n, Ko_v, vX_i, vX_r, vX_l, vX_j, reduceIte, pS_B, pS_T, pS_V, pS_K, a1, a2, a3, a4, not_true]
            rw [c185 hs]
            simp (disch := (first | assumption | omega | exact Nat.le_of_ble_eq_true rfl | rfl)) only [w205_0, w205_1, w205_4, w205_7, w205_8, w205_11, w205_12, w205_15, w205_16, w205_19, w205_20, w205_23, w205_24, w205_25, w205_28, w205_29, w205_32, w205_34, w205_35, w205_38, w205_39, w205_40, w205_41, w205_44, w205_45, w205_46, Ko_n, Ko_v, vX_i, vX_r, vX_l, vX_j, reduceIte]
          · rw [if_neg (fun w => a4 w.2.2.2)]
            simp (disch := (first | assumption | omega | exact Nat.le_of_ble_eq_true rfl | rfl)) only [w205_0, w205_1, w205_4, w205_7, w205_8, w205_11, w205_12, w205_15, w205_16, w205_19, w205_20, w205_23, w205_24, w205_25, w205_28, w205_29, w205_32, w205_34, w205_35, w205_38, w205_39, w205_40, w205_41, w205_44, w205_45, w205_46, Ko_n, Ko_v, vX_i, vX_r, vX_l, vX_j, reduceIte, pS_B, pS_T, pS_V, pS_K, a1, a2, a3, a4, not_true, not_false_eq_true]
      · rw [if_neg (fun w => a2 w.2.1)]
        simp (disch := (first | assumption | omega | exact Nat.le_of_ble_eq_true rfl | rfl)) only [w205_0, w205_1, w205_4, w205_7, w205_8, w205_11, w205_12, w205_15, w205_16, w205_19, w205_20, w205_23, w205_24, w205_25, w205_28, w205_29, w205_32, w205_34, w205_35, w205_38, w205_39, w205_40, w205_41, w205_44, w205_45, w205_46, Ko_n, Ko_v, vX_i, vX_r, vX_l, vX_j, reduceIte, pS_B, pS_T, a1, a2, not_true, not_false_eq_true]
    · rw [if_neg (fun w => a1 w.1)]
      simp (disch := (first | assumption | omega | exact Nat.le_of_ble_eq_true rfl | rfl)) only [w205_0, w205_1, w205_4, w205_7, w205_8, w205_11, w205_12, w205_15, w205_16, w205_19, w205_20, w205_23, w205_24, w205_25, w205_28, w205_29, w205_32, w205_34, w205_35, w205_38, w205_39, w205_40, w205_41, w205_44, w205_45, w205_46, Ko_n, Ko_v, vX_i, vX_r, vX_l, vX_j, reduceIte, pS_B, a1, not_false_eq_true]
  rw [st]
  clear st hs1
  have hK1 := m1.2.1
  have mw := Mv_nm (lo := 0) (hi := pK s 3 - 1) hf m1.1
  have vw := nmb_v (f := f) (lo := 0) (hi := pK s 3 - 1) m1.1
  have hKw := mw.2.1
  rw [hK1] at hKw
  simp (disch := (first | assumption | omega | exact Nat.le_of_ble_eq_true rfl | rfl)) only [w205_49, w205_50, w205_51, w205_52, w205_55, w205_56, w205_57, w205_58, w205_59, w205_62, Ko_n, Ko_v, vX_i, vX_r, vX_l, vX_j, reduceIte, pS_K, hK1]
  rw [c190 hF hn hf m1.1 (by omega) (by omega) (by omega) (by omega)]
  generalize nmb f n 0 (pK s 3 - 1) s1 = w at *
  have tw : tW (pK w.2) := by rw [hKw]; exact ht
  have hc := cel_in hf mw.1 tw
  simp (disch := (first | assumption | omega | exact Nat.le_of_ble_eq_true rfl | rfl)) only [w205_49, w205_50, w205_51, w205_52, w205_55, w205_56, w205_57, w205_58, w205_59, w205_62, w205_63, w205_64, w205_67, w205_68, w205_69, w205_70, w205_73, w205_76, Ko_n, Ko_v, vX_i, vX_r, vX_l, vX_j, reduceIte]
  rw [c201 hF hn hf mw.1 tw]
  generalize celP f n w.2 = c at *
  have mb := Mv_nm (lo := 0) (hi := 999) hf hc.1.1
  simp (disch := (first | assumption | omega | exact Nat.le_of_ble_eq_true rfl | rfl)) only [w205_49, w205_50, w205_51, w205_52, w205_55, w205_56, w205_57, w205_58, w205_59, w205_62, w205_63, w205_64, w205_67, w205_68, w205_69, w205_70, w205_73, w205_76, Ko_n, Ko_v, vX_i, vX_r, vX_l, vX_j, reduceIte]
  rw [c190 hF hn hf hc.1.1 (by omega) (by omega) (by omega) (by omega)]
  generalize nmb f n 0 999 c.2 = b at *
  have hbb := mb.1.1
  by_cases e5 : pB b.2 = 0
  · rw [if_pos e5]
    have b0 := (mb.2.2.2 e5).1
    have b1 := (hc.1.2.2.2 b0).1
    have v := vw.1 b1
    have kb : pK b.2 = pK s := by rw [mb.2.1, hc.1.2.1, hKw]
    have q := e4 w.1 (by omega) (by omega)
    simp (disch := (first | assumption | omega | exact Nat.le_of_ble_eq_true rfl | rfl)) only [w205_0, w205_1, w205_4, w205_7, w205_8, w205_11, w205_12, w205_15, w205_16, w205_19, w205_20, w205_23, w205_24, w205_25, w205_28, w205_29, w205_32, w205_34, w205_35, w205_38, w205_39, w205_40, w205_41, w205_44, w205_45, w205_46, w205_49, w205_50, w205_51, w205_52, w205_55, w205_56, w205_57, w205_58, w205_59, w205_62, w205_63, w205_64, w205_67, w205_68, w205_69, w205_70, w205_73, w205_76, w205_77, w205_78, w205_81, w205_84, w205_85, w205_86, w205_89, w205_91, w205_92, w205_93, w205_94, w205_95, w205_96, w205_99, w205_101, w205_102, w205_103, w205_104, w205_105, w205_106, w205_107, w205_108, w205_111, w205_113, w205_114, w205_115, w205_116, w205_117, w205_118, w205_121, w205_123, w205_124, w205_125, w205_126, w205_127, w205_128, w205_129, w205_130, w205_133, w205_135, w205_136, w205_137, w205_138, w205_139, w205_140, w205_141, w205_142, Ko_n, Ko_v, vX_i, vX_r, vX_l, vX_j, reduceIte, pS_B, pS_K, kb, e5, pS_uK, pK_, pB_, pP_, pG_, pH_, pT_, pV_, pD_, fu_n (show 93 + w.1 ≠ 98 + 4 * w.1 + pK s (93 + w.1) by omega), fu_n (show 93 + w.1 ≠ 118 + 4 * w.1 + pK s (93 + w.1) by omega)]
    unfold stK2 erS
    rw [e5]
  · rw [if_neg e5]
    simp (disch := (first | assumption | omega | exact Nat.le_of_ble_eq_true rfl | rfl)) only [w205_0, w205_1, w205_4, w205_7, w205_8, w205_11, w205_12, w205_15, w205_16, w205_19, w205_20, w205_23, w205_24, w205_25, w205_28, w205_29, w205_32, w205_34, w205_35, w205_38, w205_39, w205_40, w205_41, w205_44, w205_45, w205_46, w205_49, w205_50, w205_51, w205_52, w205_55, w205_56, w205_57, w205_58, w205_59, w205_62, w205_63, w205_64, w205_67, w205_68, w205_69, w205_70, w205_73, w205_76, w205_77, w205_78, w205_81, w205_84, w205_85, w205_86, w205_89, w205_91, w205_92, w205_93, w205_94, w205_95, w205_96, w205_99, w205_101, w205_102, w205_103, w205_104, w205_105, w205_106, w205_107, w205_108, w205_111, w205_113, w205_114, w205_115, w205_116, w205_117, w205_118, w205_121, w205_123, w205_124, w205_125, w205_126, w205_127, w205_128, w205_129, w205_130, w205_133, w205_135, w205_136, w205_137, w205_138, w205_139, w205_140, w205_141, w205_142, Ko_n, Ko_v, vX_i, vX_r, vX_l, vX_j, reduceIte, pS_B, e5]
