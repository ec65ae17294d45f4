/-! ===== the reference reads a law: truths ===== -/
theorem c196 {e : Nat} {n D : Int} {f : Int → Int} {T : Tt} {σ : St} {un tr sm : Ps → Ps} (hF : σ 1205 382 = f) (hn : σ 1207 382 0 = n) (hf : tpOk f n) (D1 : D ≤ 6) (hLU : rL n (D + 1) un) (hLT : rL n (D + 1) tr) (hLS : rL n D sm) (hU : rC T σ n (D + 1) 196 (e + 10) un) (hT : rC T σ n (D + 1) 194 (e + 12) tr) (hS : rC T σ n D 197 (e + 12) sm) : rC T σ n D 196 (e + 13) (pUnt f n un tr sm) := by
  intro d k Q s hs hk hd h7
  have h0 := ob_md
  have h1 := hs.1
  have hn9 := hf.2
  rw [show d + (e + 13) = d + e + 13 by omega, n196 _ _ _ _ _ _ h0]
  unfold pUnt
  by_cases hb : pB s = 0
  · rw [if_pos hb]
    simp (disch := (first | assumption | omega | exact Nat.le_of_ble_eq_true rfl | rfl)) only [w196_0, w196_1, w196_4, w196_7, w196_8, w196_9, w196_11, w196_14, w196_17, w196_18, w196_21, w196_22, w196_25, w196_26, w196_28, w196_31, w196_32, w196_33, w196_36, w196_37, w196_38, w196_41, w196_44, w196_45, w196_47, w196_50, w196_53, w196_54, w196_57, w196_58, w196_61, w196_62, w196_64, w196_67, w196_68, w196_69, w196_72, w196_73, w196_74, w196_77, w196_80, w196_81, w196_84, w196_85, w196_88, w196_89, w196_90, w196_92, w196_95, w196_96, w196_98, w196_101, w196_102, w196_104, w196_107, w196_108, w196_109, w196_112, w196_113, w196_116, w196_119, w196_120, w196_123, w196_124, w196_127, w196_128, w196_129, w196_131, w196_134, w196_136, w196_139, w196_140, w196_142, w196_145, w196_147, w196_150, w196_152, w196_155, Ko_n, Ko_v, vX_i, vX_r, vX_l, vX_j, reduceIte, pS_B, hb]
    rw [c186w (i := 12) rfl hF hf hs (by omega)]
    cases hw : isWd f 12 s with
    | true =>
      have hh := isWd_h hw
      have g := Lo_gi hf hs (by omega)
      have g2 := hLU _ g.1.1 (Lo_k g.1 hk) (by rw [g.1.2.1]; omega) (fun e => g.2 (by omega))
      have hk2 := Lo_k g2 (Lo_k g.1 hk)
      have hc := fun k Q => hU (d + 2) k Q _ g.1.1 (Lo_k g.1 hk) (by rw [g.1.2.1]; omega) (fun e => g.2 (by omega))
      rw [show d + 2 + (e + 10) = d + e + 12 by omega] at hc
      simp (disch := (first | assumption | omega | exact Nat.le_of_ble_eq_true rfl | rfl)) only [w196_0, w196_1, w196_4, w196_7, w196_8, w196_9, w196_11, w196_14, w196_17, w196_18, w196_21, w196_22, w196_25, w196_26, w196_28, w196_31, w196_32, w196_33, w196_36, w196_37, w196_38, w196_41, w196_44, w196_45, w196_47, w196_50, w196_53, w196_54, w196_57, w196_58, w196_61, w196_62, w196_64, w196_67, w196_68, w196_69, w196_72, w196_73, w196_74, w196_77, w196_80, w196_81, w196_84, w196_85, w196_88, w196_89, w196_90, w196_92, w196_95, w196_96, w196_98, w196_101, w196_102, w196_104, w196_107, w196_108, w196_109, w196_112, w196_113, w196_116, w196_119, w196_120, w196_123, w196_124, w196_127, w196_128, w196_129, w196_131, w196_134, w196_136, w196_139, w196_140, w196_142, w196_145, w196_147, w196_150, w196_152, w196_155, Ko_n, Ko_v, vX_i, vX_r, vX_l, vX_j, reduceIte, Int.reduceEq]
      rw [c193 hF hn hf hs (by omega)]
      simp (disch := (first | assumption | omega | exact Nat.le_of_ble_eq_true rfl | rfl)) only [w196_0, w196_1, w196_4, w196_7, w196_8, w196_9, w196_11, w196_14, w196_17, w196_18, w196_21, w196_22, w196_25, w196_26, w196_28, w196_31, w196_32, w196_33, w196_36, w196_37, w196_38, w196_41, w196_44, w196_45, w196_47, w196_50, w196_53, w196_54, w196_57, w196_58, w196_61, w196_62, w196_64, w196_67, w196_68, w196_69, w196_72, w196_73, w196_74, w196_77, w196_80, w196_81, w196_84, w196_85, w196_88, w196_89, w196_90, w196_92, w196_95, w196_96, w196_98, w196_101, w196_102, w196_104, w196_107, w196_108, w196_109, w196_112, w196_113, w196_116, w196_119, w196_120, w196_123, w196_124, w196_127, w196_128, w196_129, w196_131, w196_134, w196_136, w196_139, w196_140, w196_142, w196_145, w196_147, w196_150, w196_152, w196_155, Ko_n, Ko_v, vX_i, vX_r, vX_l, vX_j, reduceIte]
      rw [hc]
      simp (disch := (first | assumption | omega | exact Nat.le_of_ble_eq_true rfl | rfl)) only [w196_0, w196_1, w196_4, w196_7, w196_8, w196_9, w196_11, w196_14, w196_17, w196_18, w196_21, w196_22, w196_25, w196_26, w196_28, w196_31, w196_32, w196_33, w196_36, w196_37, w196_38, w196_41, w196_44, w196_45, w196_47, w196_50, w196_53, w196_54, w196_57, w196_58, w196_61, w196_62, w196_64, w196_67, w196_68, w196_69, w196_72, w196_73, w196_74, w196_77, w196_80, w196_81, w196_84, w196_85, w196_88, w196_89, w196_90, w196_92, w196_95, w196_96, w196_98, w196_101, w196_102, w196_104, w196_107, w196_108, w196_109, w196_112, w196_113, w196_116, w196_119, w196_120, w196_123, w196_124, w196_127, w196_128, w196_129, w196_131, w196_134, w196_136, w196_139, w196_140, w196_142, w196_145, w196_147, w196_150, w196_152, w196_155, Ko_n, Ko_v, vX_i, vX_r, vX_l, vX_j, reduceIte]
      rw [c192 g2.1 hk2.1 (kO_9 g2.1 hk2 hn9.2)]
      simp (disch := (first | assumption | omega | exact Nat.le_of_ble_eq_true rfl | rfl)) only [w196_0, w196_1, w196_4, w196_7, w196_8, w196_9, w196_11, w196_14, w196_17, w196_18, w196_21, w196_22, w196_25, w196_26, w196_28, w196_31, w196_32, w196_33, w196_36, w196_37, w196_38, w196_41, w196_44, w196_45, w196_47, w196_50, w196_53, w196_54, w196_57, w196_58, w196_61, w196_62, w196_64, w196_67, w196_68, w196_69, w196_72, w196_73, w196_74, w196_77, w196_80, w196_81, w196_84, w196_85, w196_88, w196_89, w196_90, w196_92, w196_95, w196_96, w196_98, w196_101, w196_102, w196_104, w196_107, w196_108, w196_109, w196_112, w196_113, w196_116, w196_119, w196_120, w196_123, w196_124, w196_127, w196_128, w196_129, w196_131, w196_134, w196_136, w196_139, w196_140, w196_142, w196_145, w196_147, w196_150, w196_152, w196_155, Ko_n, Ko_v, vX_i, vX_r, vX_l, vX_j, reduceIte, pS_D, pS_uD]
      rfl
    | false =>
      simp (disch := (first | assumption | omega | exact Nat.le_of_ble_eq_true rfl | rfl)) only [w196_0, w196_1, w196_4, w196_7, w196_8, w196_9, w196_11, w196_14, w196_17, w196_18, w196_21, w196_22, w196_25, w196_26, w196_28, w196_31, w196_32, w196_33, w196_36, w196_37, w196_38, w196_41, w196_44, w196_45, w196_47, w196_50, w196_53, w196_54, w196_57, w196_58, w196_61, w196_62, w196_64, w196_67, w196_68, w196_69, w196_72, w196_73, w196_74, w196_77, w196_80, w196_81, w196_84, w196_85, w196_88, w196_89, w196_90, w196_92, w196_95, w196_96, w196_98, w196_101, w196_102, w196_104, w196_107, w196_108, w196_109, w196_112, w196_113, w196_116, w196_119, w196_120, w196_123, w196_124, w196_127, w196_128, w196_129, w196_131, w196_134, w196_136, w196_139, w196_140, w196_142, w196_145, w196_147, w196_150, w196_152, w196_155, Ko_n, Ko_v, vX_i, vX_r, vX_l, vX_j, reduceIte, Bool.false_eq_true]
      rw [c188 hs (by omega) (by omega)]
      cases hz : isSg 91 s with
      | true =>
        have g := Lo_gi hf hs (by omega)
        have g2 := hLT _ g.1.1 (Lo_k g.1 hk) (by rw [g.1.2.1]; omega) (fun e => g.2 (by omega))
        have hc := fun k Q => hT d k Q _ g.1.1 (Lo_k g.1 hk) (by rw [g.1.2.1]; omega) (fun e => g.2 (by omega))
        rw [show d + (e + 12) = d + e + 12 by omega] at hc
        simp (disch := (first | assumption | omega | exact Nat.le_of_ble_eq_true rfl | rfl)) only [w196_0, w196_1, w196_4, w196_7, w196_8, w196_9, w196_11, w196_14, w196_17, w196_18, w196_21, w196_22, w196_25, w196_26, w196_28, w196_31, w196_32, w196_33, w196_36, w196_37, w196_38, w196_41, w196_44, w196_45, w196_47, w196_50, w196_53, w196_54, w196_57, w196_58, w196_61, w196_62, w196_64, w196_67, w196_68, w196_69, w196_72, w196_73, w196_74, w196_77, w196_80, w196_81, w196_84, w196_85, w196_88, w196_89, w196_90, w196_92, w196_95, w196_96, w196_98, w196_101, w196_102, w196_104, w196_107, w196_108, w196_109, w196_112, w196_113, w196_116, w196_119, w196_120, w196_123, w196_124, w196_127, w196_128, w196_129, w196_131, w196_134, w196_136, w196_139, w196_140, w196_142, w196_145, w196_147, w196_150, w196_152, w196_155, Ko_n, Ko_v, vX_i, vX_r, vX_l, vX_j, reduceIte, Int.reduceEq]
        rw [c193 hF hn hf hs (by omega)]
        simp (disch := (first | assumption | omega | exact Nat.le_of_ble_eq_true rfl | rfl)) only [w196_0, w196_1, w196_4, w196_7, w196_8, w196_9, w196_11, w196_14, w196_17, w196_18, w196_21, w196_22, w196_25, w196_26, w196_28, w196_31, w196_32, w196_33, w196_36, w196_37, w196_38, w196_41, w196_44, w196_45, w196_47, w196_50, w196_53, w196_54, w196_57, w196_58, w196_61, w196_62, w196_64, w196_67, w196_68, w196_69, w196_72, w196_73, w196_74, w196_77, w196_80, w196_81, w196_84, w196_85, w196_88, w196_89, w196_90, w196_92, w196_95, w196_96, w196_98, w196_101, w196_102, w196_104, w196_107, w196_108, w196_109, w196_112, w196_113, w196_116, w196_119, w196_120, w196_123, w196_124, w196_127, w196_128, w196_129, w196_131, w196_134, w196_136, w196_139, w196_140, w196_142, w196_145, w196_147, w196_150, w196_152, w196_155, Ko_n, Ko_v, vX_i, vX_r, vX_l, vX_j, reduceIte]
        rw [hc]
        simp (disch := (first | assumption | omega | exact Nat.le_of_ble_eq_true rfl | rfl)) only [w196_0, w196_1, w196_4, w196_7, w196_8, w196_9, w196_11, w196_14, w196_17, w196_18, w196_21, w196_22, w196_25, w196_26, w196_28, w196_31, w196_32, w196_33, w196_36, w196_37, w196_38, w196_41, w196_44, w196_45, w196_47, w196_50, w196_53, w196_54, w196_57, w196_58, w196_61, w196_62, w196_64, w196_67, w196_68, w196_69, w196_72, w196_73, w196_74, w196_77, w196_80, w196_81, w196_84, w196_85, w196_88, w196_89, w196_90, w196_92, w196_95, w196_96, w196_98, w196_101, w196_102, w196_104, w196_107, w196_108, w196_109, w196_112, w196_113, w196_116, w196_119, w196_120, w196_123, w196_124, w196_127, w196_128, w196_129, w196_131, w196_134, w196_136, w196_139, w196_140, w196_142, w196_145, w196_147, w196_150, w196_152, w196_155, Ko_n, Ko_v, vX_i, vX_r, vX_l, vX_j, reduceIte]
        rw [c189 hF hn hf g2.1 (by omega) (by omega)]
        simp (disch := (first | assumption | omega | exact Nat.le_of_ble_eq_true rfl | rfl)) only [w196_0, w196_1, w196_4, w196_7, w196_8, w196_9, w196_11, w196_14, w196_17, w196_18, w196_21, w196_22, w196_25, w196_26, w196_28, w196_31, w196_32, w196_33, w196_36, w196_37, w196_38, w196_41, w196_44, w196_45, w196_47, w196_50, w196_53, w196_54, w196_57, w196_58, w196_61, w196_62, w196_64, w196_67, w196_68, w196_69, w196_72, w196_73, w196_74, w196_77, w196_80, w196_81, w196_84, w196_85, w196_88, w196_89, w196_90, w196_92, w196_95, w196_96, w196_98, w196_101, w196_102, w196_104, w196_107, w196_108, w196_109, w196_112, w196_113, w196_116, w196_119, w196_120, w196_123, w196_124, w196_127, w196_128, w196_129, w196_131, w196_134, w196_136, w196_139, w196_140, w196_142, w196_145, w196_147, w196_150, w196_152, w196_155, Ko_n, Ko_v, vX_i, vX_r, vX_l, vX_j, reduceIte, pS_D, pS_uD]
        rfl
      | false =>
        have b1 := hLS s hs hk hd h7
        have k1 := Lo_k b1 hk
        have hd1 : pD (sm s) = D := by rw [b1.2.1]; omega
        have hc := fun k Q => hS d k Q s hs hk hd h7
        rw [show d + (e + 12) = d + e + 12 by omega] at hc
        have b2 := Lo_cm hf b1.1
        have k2 := Lo_k b2 k1
        have hd2 : pD (cmS f n (sm s)) = D := by rw [b2.2.1]; omega
        have h72 : D = 7 → pB (cmS f n (sm s)) ≠ 0 := fun z => by omega
        have b3 := hLS _ b2.1 k2 hd2 h72
        have k3 := Lo_k b3 k2
        have hc2 := fun k Q => hS d k Q _ b2.1 k2 hd2 h72
        rw [show d + (e + 12) = d + e + 12 by omega] at hc2
        have t1 := b1.1.2.1
        have bb := b1.1.1
        simp (disch := (first | assumption | omega | exact Nat.le_of_ble_eq_true rfl | rfl)) only [w196_0, w196_1, w196_4, w196_7, w196_8, w196_9, w196_11, w196_14, w196_17, w196_18, w196_21, w196_22, w196_25, w196_26, w196_28, w196_31, w196_32, w196_33, w196_36, w196_37, w196_38, w196_41, w196_44, w196_45, w196_47, w196_50, w196_53, w196_54, w196_57, w196_58, w196_61, w196_62, w196_64, w196_67, w196_68, w196_69, w196_72, w196_73, w196_74, w196_77, w196_80, w196_81, w196_84, w196_85, w196_88, w196_89, w196_90, w196_92, w196_95, w196_96, w196_98, w196_101, w196_102, w196_104, w196_107, w196_108, w196_109, w196_112, w196_113, w196_116, w196_119, w196_120, w196_123, w196_124, w196_127, w196_128, w196_129, w196_131, w196_134, w196_136, w196_139, w196_140, w196_142, w196_145, w196_147, w196_150, w196_152, w196_155, Ko_n, Ko_v, vX_i, vX_r, vX_l, vX_j, reduceIte, Bool.false_eq_true]
        rw [hc]
        have tl : Wp (d + e + 13) M_X12_readUnit 123 [.ref 382, .int (i32 (pT (sm s)))] [] (E T (pS σ (cmS f n (sm s)))) Q = Q (.inl none) (E T (pS σ (lay (cmC (pT (sm s))) (sm (cmS f n (sm s)))))) := by
          simp (disch := (first | assumption | omega | exact Nat.le_of_ble_eq_true rfl | rfl)) only [w196_0, w196_1, w196_4, w196_7, w196_8, w196_9, w196_11, w196_14, w196_17, w196_18, w196_21, w196_22, w196_25, w196_26, w196_28, w196_31, w196_32, w196_33, w196_36, w196_37, w196_38, w196_41, w196_44, w196_45, w196_47, w196_50, w196_53, w196_54, w196_57, w196_58, w196_61, w196_62, w196_64, w196_67, w196_68, w196_69, w196_72, w196_73, w196_74, w196_77, w196_80, w196_81, w196_84, w196_85, w196_88, w196_89, w196_90, w196_92, w196_95, w196_96, w196_98, w196_101, w196_102, w196_104, w196_107, w196_108, w196_109, w196_112, w196_113, w196_116, w196_119, w196_120, w196_123, w196_124, w196_127, w196_128, w196_129, w196_131, w196_134, w196_136, w196_139, w196_140, w196_142, w196_145, w196_147, w196_150, w196_152, w196_155, Ko_n, Ko_v, vX_i, vX_r, vX_l, vX_j, reduceIte]
          rw [hc2]
          unfold cmC
          by_cases z1 : pT (sm s) = 61
          · simp (disch := (first | assumption | omega | exact Nat.le_of_ble_eq_true rfl | rfl)) only [w196_0, w196_1, w196_4, w196_7, w196_8, w196_9, w196_11, w196_14, w196_17, w196_18, w196_21, w196_22, w196_25, w196_26, w196_28, w196_31, w196_32, w196_33, w196_36, w196_37, w196_38, w196_41, w196_44, w196_45, w196_47, w196_50, w196_53, w196_54, w196_57, w196_58, w196_61, w196_62, w196_64, w196_67, w196_68, w196_69, w196_72, w196_73, w196_74, w196_77, w196_80, w196_81, w196_84, w196_85, w196_88, w196_89, w196_90, w196_92, w196_95, w196_96, w196_98, w196_101, w196_102, w196_104, w196_107, w196_108, w196_109, w196_112, w196_113, w196_116, w196_119, w196_120, w196_123, w196_124, w196_127, w196_128, w196_129, w196_131, w196_134, w196_136, w196_139, w196_140, w196_142, w196_145, w196_147, w196_150, w196_152, w196_155, Ko_n, Ko_v, vX_i, vX_r, vX_l, vX_j, reduceIte, z1, not_true]
            rw [c192 b3.1 k3.1 (kO_9 b3.1 k3 hn9.2)]
            simp (disch := (first | assumption | omega | exact Nat.le_of_ble_eq_true rfl | rfl)) only [w196_0, w196_1, w196_4, w196_7, w196_8, w196_9, w196_11, w196_14, w196_17, w196_18, w196_21, w196_22, w196_25, w196_26, w196_28, w196_31, w196_32, w196_33, w196_36, w196_37, w196_38, w196_41, w196_44, w196_45, w196_47, w196_50, w196_53, w196_54, w196_57, w196_58, w196_61, w196_62, w196_64, w196_67, w196_68, w196_69, w196_72, w196_73, w196_74, w196_77, w196_80, w196_81, w196_84, w196_85, w196_88, w196_89, w196_90, w196_92, w196_95, w196_96, w196_98, w196_101, w196_102, w196_104, w196_107, w196_108, w196_109, w196_112, w196_113, w196_116, w196_119, w196_120, w196_123, w196_124, w196_127, w196_128, w196_129, w196_131, w196_134, w196_136, w196_139, w196_140, w196_142, w196_145, w196_147, w196_150, w196_152, w196_155, Ko_n, Ko_v, vX_i, vX_r, vX_l, vX_j, reduceIte]
          · by_cases z2 : pT (sm s) = 60
            · simp (disch := (first | assumption | omega | exact Nat.le_of_ble_eq_true rfl | rfl)) only [w196_0, w196_1, w196_4, w196_7, w196_8, w196_9, w196_11, w196_14, w196_17, w196_18, w196_21, w196_22, w196_25, w196_26, w196_28, w196_31, w196_32, w196_33, w196_36, w196_37, w196_38, w196_41, w196_44, w196_45, w196_47, w196_50, w196_53, w196_54, w196_57, w196_58, w196_61, w196_62, w196_64, w196_67, w196_68, w196_69, w196_72, w196_73, w196_74, w196_77, w196_80, w196_81, w196_84, w196_85, w196_88, w196_89, w196_90, w196_92, w196_95, w196_96, w196_98, w196_101, w196_102, w196_104, w196_107, w196_108, w196_109, w196_112, w196_113, w196_116, w196_119, w196_120, w196_123, w196_124, w196_127, w196_128, w196_129, w196_131, w196_134, w196_136, w196_139, w196_140, w196_142, w196_145, w196_147, w196_150, w196_152, w196_155, Ko_n, Ko_v, vX_i, vX_r, vX_l, vX_j, reduceIte, z1, z2, not_true, not_false_eq_true, Int.reduceEq]
              rw [c192 b3.1 k3.1 (kO_9 b3.1 k3 hn9.2)]
              simp (disch := (first | assumption | omega | exact Nat.le_of_ble_eq_true rfl | rfl)) only [w196_0, w196_1, w196_4, w196_7, w196_8, w196_9, w196_11, w196_14, w196_17, w196_18, w196_21, w196_22, w196_25, w196_26, w196_28, w196_31, w196_32, w196_33, w196_36, w196_37, w196_38, w196_41, w196_44, w196_45, w196_47, w196_50, w196_53, w196_54, w196_57, w196_58, w196_61, w196_62, w196_64, w196_67, w196_68, w196_69, w196_72, w196_73, w196_74, w196_77, w196_80, w196_81, w196_84, w196_85, w196_88, w196_89, w196_90, w196_92, w196_95, w196_96, w196_98, w196_101, w196_102, w196_104, w196_107, w196_108, w196_109, w196_112, w196_113, w196_116, w196_119, w196_120, w196_123, w196_124, w196_127, w196_128, w196_129, w196_131, w196_134, w196_136, w196_139, w196_140, w196_142, w196_145, w196_147, w196_150, w196_152, w196_155, Ko_n, Ko_v, vX_i, vX_r, vX_l, vX_j, reduceIte]
            · simp (disch := (first | assumption | omega | exact Nat.le_of_ble_eq_true rfl | rfl)) only [w196_0, w196_1, w196_4, w196_7, w196_8, w196_9, w196_11, w196_14, w196_17, w196_18, w196_21, w196_22, w196_25, w196_26, w196_28, w196_31, w196_32, w196_33, w196_36, w196_37, w196_38, w196_41, w196_44, w196_45, w196_47, w196_50, w196_53, w196_54, w196_57, w196_58, w196_61, w196_62, w196_64, w196_67, w196_68, w196_69, w196_72, w196_73, w196_74, w196_77, w196_80, w196_81, w196_84, w196_85, w196_88, w196_89, w196_90, w196_92, w196_95, w196_96, w196_98, w196_101, w196_102, w196_104, w196_107, w196_108, w196_109, w196_112, w196_113, w196_116, w196_119, w196_120, w196_123, w196_124, w196_127, w196_128, w196_129, w196_131, w196_134, w196_136, w196_139, w196_140, w196_142, w196_145, w196_147, w196_150, w196_152, w196_155, Ko_n, Ko_v, vX_i, vX_r, vX_l, vX_j, reduceIte, z1, z2, not_true, not_false_eq_true]
              rw [c192 b3.1 k3.1 (kO_9 b3.1 k3 hn9.2)]
              simp (disch := (first | assumption | omega | exact Nat.le_of_ble_eq_true rfl | rfl)) only [w196_0, w196_1, w196_4, w196_7, w196_8, w196_9, w196_11, w196_14, w196_17, w196_18, w196_21, w196_22, w196_25, w196_26, w196_28, w196_31, w196_32, w196_33, w196_36, w196_37, w196_38, w196_41, w196_44, w196_45, w196_47, w196_50, w196_53, w196_54, w196_57, w196_58, w196_61, w196_62, w196_64, w196_67, w196_68, w196_69, w196_72, w196_73, w196_74, w196_77, w196_80, w196_81, w196_84, w196_85, w196_88, w196_89, w196_90, w196_92, w196_95, w196_96, w196_98, w196_101, w196_102, w196_104, w196_107, w196_108, w196_109, w196_112, w196_113, w196_116, w196_119, w196_120, w196_123, w196_124, w196_127, w196_128, w196_129, w196_131, w196_134, w196_136, w196_139, w196_140, w196_142, w196_145, w196_147, w196_150, w196_152, w196_155, Ko_n, Ko_v, vX_i, vX_r, vX_l, vX_j, reduceIte]
        have md : ∀ t : Ps, pO n t → rdO f n t = cmS f n (sm s) → Wp (d + e + 13) M_X12_readUnit 112 [.ref 382, .int (i32 (pT (sm s)))] [] (E T (pS σ t)) Q = Q (.inl none) (E T (pS σ (lay (cmC (pT (sm s))) (sm (cmS f n (sm s)))))) := by
          intro t ht he
          have hb1 := ht.1
          rw [← he] at tl ⊢
          unfold rdO at tl ⊢
          by_cases e2 : pB t = 0
          · rw [if_pos e2] at tl ⊢
            simp (disch := (first | assumption | omega | exact Nat.le_of_ble_eq_true rfl | rfl)) only [w196_112, w196_113, w196_116, w196_119, w196_120, Ko_n, Ko_v, vX_i, vX_r, vX_l, vX_j, reduceIte, pS_B, e2, not_true]
            rw [c184 hF hn hf ht]
            simp (disch := (first | assumption | omega | exact Nat.le_of_ble_eq_true rfl | rfl)) only [w196_112, w196_113, w196_116, w196_119, w196_120, Ko_n, Ko_v, vX_i, vX_r, vX_l, vX_j, reduceIte]
            exact tl
          · rw [if_neg e2] at tl ⊢
            simp (disch := (first | assumption | omega | exact Nat.le_of_ble_eq_true rfl | rfl)) only [w196_112, w196_113, w196_116, w196_119, w196_120, Ko_n, Ko_v, vX_i, vX_r, vX_l, vX_j, reduceIte, pS_B, e2, not_false_eq_true]
            exact tl
        unfold cmS at md
        by_cases z1 : pT (sm s) = 61 ∨ pT (sm s) = 60 ∨ pT (sm s) = 62
        · rw [if_pos z1] at md
          have md2 := md (sm s) b1.1 rfl
          have e3 : rdO f n (sm s) = cmS f n (sm s) := by unfold cmS; rw [if_pos z1]
          rw [e3] at md2
          rcases z1 with z1 | z1 | z1
          · rw [z1] at md2 ⊢
            simp (disch := (first | assumption | omega | exact Nat.le_of_ble_eq_true rfl | rfl)) only [w196_80, w196_81, w196_84, w196_85, w196_88, w196_89, w196_90, w196_92, w196_95, w196_96, w196_98, w196_101, w196_102, w196_104, w196_107, w196_108, w196_109, Ko_n, Ko_v, vX_i, vX_r, vX_l, vX_j, reduceIte, pS_T, z1]
            exact md2
          · rw [z1] at md2 ⊢
            simp (disch := (first | assumption | omega | exact Nat.le_of_ble_eq_true rfl | rfl)) only [w196_80, w196_81, w196_84, w196_85, w196_88, w196_89, w196_90, w196_92, w196_95, w196_96, w196_98, w196_101, w196_102, w196_104, w196_107, w196_108, w196_109, Ko_n, Ko_v, vX_i, vX_r, vX_l, vX_j, reduceIte, pS_T, z1, Int.reduceEq]
            exact md2
          · rw [z1] at md2 ⊢
            simp (disch := (first | assumption | omega | exact Nat.le_of_ble_eq_true rfl | rfl)) only [w196_80, w196_81, w196_84, w196_85, w196_88, w196_89, w196_90, w196_92, w196_95, w196_96, w196_98, w196_101, w196_102, w196_104, w196_107, w196_108, w196_109, Ko_n, Ko_v, vX_i, vX_r, vX_l, vX_j, reduceIte, pS_T, z1, Int.reduceEq]
            exact md2
        · rw [if_neg z1] at md
          have hO := (blm_O b1.1 (k := 2) (by omega) (by omega)).1
          have md2 := md (blm 2 (sm s)) hO rfl
          have e3 : rdO f n (blm 2 (sm s)) = cmS f n (sm s) := by unfold cmS; rw [if_neg z1]
          rw [e3] at md2
          simp only [not_or] at z1
          simp (disch := (first | assumption | omega | exact Nat.le_of_ble_eq_true rfl | rfl)) only [w196_80, w196_81, w196_84, w196_85, w196_88, w196_89, w196_90, w196_92, w196_95, w196_96, w196_98, w196_101, w196_102, w196_104, w196_107, w196_108, w196_109, Ko_n, Ko_v, vX_i, vX_r, vX_l, vX_j, reduceIte, pS_T, z1.1, z1.2.1, z1.2.2]
          rw [c185 b1.1]
          simp (disch := (first | assumption | omega | exact Nat.le_of_ble_eq_true rfl | rfl)) only [w196_80, w196_81, w196_84, w196_85, w196_88, w196_89, w196_90, w196_92, w196_95, w196_96, w196_98, w196_101, w196_102, w196_104, w196_107, w196_108, w196_109, Ko_n, Ko_v, vX_i, vX_r, vX_l, vX_j, reduceIte]
          exact md2
  · rw [if_neg hb]
    simp (disch := (first | assumption | omega | exact Nat.le_of_ble_eq_true rfl | rfl)) only [w196_0, w196_1, w196_4, w196_7, w196_8, w196_9, w196_11, w196_14, w196_17, w196_18, w196_21, w196_22, w196_25, w196_26, w196_28, w196_31, w196_32, w196_33, w196_36, w196_37, w196_38, w196_41, w196_44, w196_45, w196_47, w196_50, w196_53, w196_54, w196_57, w196_58, w196_61, w196_62, w196_64, w196_67, w196_68, w196_69, w196_72, w196_73, w196_74, w196_77, w196_80, w196_81, w196_84, w196_85, w196_88, w196_89, w196_90, w196_92, w196_95, w196_96, w196_98, w196_101, w196_102, w196_104, w196_107, w196_108, w196_109, w196_112, w196_113, w196_116, w196_119, w196_120, w196_123, w196_124, w196_127, w196_128, w196_129, w196_131, w196_134, w196_136, w196_139, w196_140, w196_142, w196_145, w196_147, w196_150, w196_152, w196_155, Ko_n, Ko_v, vX_i, vX_r, vX_l, vX_j, reduceIte, pS_B, hb]
theorem c195 {e : Nat} {n D : Int} {f : Int → Int} {T : Tt} {σ : St} {F : Ps → Ps} (hF : σ 1205 382 = f) (hn : σ 1207 382 0 = n) (hf : tpOk f n) (D1 : D ≤ 6) (hL : rL n D F) (hC : rC T σ n D 196 (e + 13) F) : rC T σ n D 195 (e + 14) (fun s => lpG (isWd f 19) (fun s => lay 16 (F (rdOn f n s))) 901 (F s)) := by
  intro d k Q s hs hk hd h7
  have h0 := ob_md
  have hn9 := hf.2
  have loop : ∀ (m : Nat) (s : Ps), pO n s → kO s → pD s = D → (pB s = 0 → n - pG s ≤ m) → Wp (d + e + 14) M_X12_readBoth 4 [.ref 382] [] (E T (pS σ s)) Q = Q (.inl none) (E T (pS σ (lpG (isWd f 19) (fun s => lay 16 (F (rdOn f n s))) m s))) := by
    intro m
    induction m with
    | zero =>
      intro s hs hk hd hm
      have hw := wd_ed (f := f) (i := 19) hs hm
      simp (disch := omega) only [w195_4]
      simp (disch := (first | assumption | omega | exact Nat.le_of_ble_eq_true rfl | rfl)) only [w195_0, w195_1, w195_5, w195_7, w195_10, w195_13, w195_14, w195_17, w195_18, w195_20, w195_23, w195_26, Ko_n, Ko_v, vX_i, vX_r, vX_l, vX_j, reduceIte]
      rw [c187w (i := 19) rfl hF hn hf hs (by omega), tkW_f hw, hw]
      simp (disch := (first | assumption | omega | exact Nat.le_of_ble_eq_true rfl | rfl)) only [w195_0, w195_1, w195_5, w195_7, w195_10, w195_13, w195_14, w195_17, w195_18, w195_20, w195_23, w195_26, Ko_n, Ko_v, vX_i, vX_r, vX_l, vX_j, reduceIte, Bool.false_eq_true]
      rfl
    | succ m ih =>
      intro s hs hk hd hm
      simp (disch := omega) only [w195_4]
      simp (disch := (first | assumption | omega | exact Nat.le_of_ble_eq_true rfl | rfl)) only [w195_0, w195_1, w195_5, w195_7, w195_10, w195_13, w195_14, w195_17, w195_18, w195_20, w195_23, w195_26, Ko_n, Ko_v, vX_i, vX_r, vX_l, vX_j, reduceIte]
      rw [c187w (i := 19) rfl hF hn hf hs (by omega)]
      cases hz : isWd f 19 s with
      | false =>
        rw [lpG_0 (n := n) hz, tkW_f hz]
        simp (disch := (first | assumption | omega | exact Nat.le_of_ble_eq_true rfl | rfl)) only [w195_0, w195_1, w195_5, w195_7, w195_10, w195_13, w195_14, w195_17, w195_18, w195_20, w195_23, w195_26, Ko_n, Ko_v, vX_i, vX_r, vX_l, vX_j, reduceIte, Bool.false_eq_true]
      | true =>
        have hh := isWd_h hz
        have on := lp_on (c := 16) (m := m) hf hL hs hk hd D1 hh.1 (by omega) (hm hh.1)
        have ih' := ih _ on.1.1 (Lo_k on.1 hk) (by rw [on.1.2.1]; omega) on.2
        have r := rdOn_O hf hs
        have rk := Lo_k (Lo_rd hf hs) hk
        have b := hL _ r.1 rk hd (fun z => by omega)
        have hc := fun k Q => hC d k Q _ r.1 rk hd (fun z => by omega)
        rw [show d + (e + 13) = d + e + 13 by omega] at hc
        rw [show lpG (isWd f 19) (fun s => lay 16 (F (rdOn f n s))) (m + 1) s = lpG (isWd f 19) (fun s => lay 16 (F (rdOn f n s))) m (lay 16 (F (rdOn f n s))) by simp only [lpG]; rw [if_pos hz], tkW_t hz]
        simp (disch := (first | assumption | omega | exact Nat.le_of_ble_eq_true rfl | rfl)) only [w195_0, w195_1, w195_5, w195_7, w195_10, w195_13, w195_14, w195_17, w195_18, w195_20, w195_23, w195_26, Ko_n, Ko_v, vX_i, vX_r, vX_l, vX_j, reduceIte, Int.reduceEq]
        rw [hc]
        simp (disch := (first | assumption | omega | exact Nat.le_of_ble_eq_true rfl | rfl)) only [w195_0, w195_1, w195_5, w195_7, w195_10, w195_13, w195_14, w195_17, w195_18, w195_20, w195_23, w195_26, Ko_n, Ko_v, vX_i, vX_r, vX_l, vX_j, reduceIte]
        rw [c192 b.1 (Lo_k b rk).1 (kO_9 b.1 (Lo_k b rk) hn9.2)]
        simp (disch := (first | assumption | omega | exact Nat.le_of_ble_eq_true rfl | rfl)) only [w195_0, w195_1, w195_5, w195_7, w195_10, w195_13, w195_14, w195_17, w195_18, w195_20, w195_23, w195_26, Ko_n, Ko_v, vX_i, vX_r, vX_l, vX_j, reduceIte]
        exact ih'
  have hc := fun k Q => hC d k Q s hs hk hd h7
  rw [show d + (e + 13) = d + e + 13 by omega] at hc
  have b := hL s hs hk hd h7
  have b3 := b.1.2.2.1
  rw [show d + (e + 14) = d + e + 14 by omega, n195 _ _ _ _ _ _ h0]
  simp (disch := (first | assumption | omega | exact Nat.le_of_ble_eq_true rfl | rfl)) only [w195_0, w195_1, w195_5, w195_7, w195_10, w195_13, w195_14, w195_17, w195_18, w195_20, w195_23, w195_26, Ko_n, Ko_v, vX_i, vX_r, vX_l, vX_j, reduceIte]
  rw [hc]
  simp (disch := (first | assumption | omega | exact Nat.le_of_ble_eq_true rfl | rfl)) only [w195_0, w195_1, w195_5, w195_7, w195_10, w195_13, w195_14, w195_17, w195_18, w195_20, w195_23, w195_26, Ko_n, Ko_v, vX_i, vX_r, vX_l, vX_j, reduceIte]
  exact loop 901 _ b.1 (Lo_k b hk) (by rw [b.2.1]; omega) (fun _ => by omega)
theorem c194 {e : Nat} {n D : Int} {f : Int → Int} {T : Tt} {σ : St} {F : Ps → Ps} (hF : σ 1205 382 = f) (hn : σ 1207 382 0 = n) (hf : tpOk f n) (D1 : D ≤ 6) (hL : rL n D F) (hC : rC T σ n D 195 (e + 14) F) : rC T σ n D 194 (e + 15) (fun s => lpG (isWd f 20) (fun s => lay 17 (F (rdOn f n s))) 901 (F s)) := by
  intro d k Q s hs hk hd h7
  have h0 := ob_md
  have hn9 := hf.2
  have loop : ∀ (m : Nat) (s : Ps), pO n s → kO s → pD s = D → (pB s = 0 → n - pG s ≤ m) → Wp (d + e + 15) M_X12_readTruth 4 [.ref 382] [] (E T (pS σ s)) Q = Q (.inl none) (E T (pS σ (lpG (isWd f 20) (fun s => lay 17 (F (rdOn f n s))) m s))) := by
    intro m
    induction m with
    | zero =>
      intro s hs hk hd hm
      have hw := wd_ed (f := f) (i := 20) hs hm
      simp (disch := omega) only [w194_4]
      simp (disch := (first | assumption | omega | exact Nat.le_of_ble_eq_true rfl | rfl)) only [w194_0, w194_1, w194_5, w194_7, w194_10, w194_13, w194_14, w194_17, w194_18, w194_20, w194_23, w194_26, Ko_n, Ko_v, vX_i, vX_r, vX_l, vX_j, reduceIte]
      rw [c187w (i := 20) rfl hF hn hf hs (by omega), tkW_f hw, hw]
      simp (disch := (first | assumption | omega | exact Nat.le_of_ble_eq_true rfl | rfl)) only [w194_0, w194_1, w194_5, w194_7, w194_10, w194_13, w194_14, w194_17, w194_18, w194_20, w194_23, w194_26, Ko_n, Ko_v, vX_i, vX_r, vX_l, vX_j, reduceIte, Bool.false_eq_true]
      rfl
    | succ m ih =>
      intro s hs hk hd hm
      simp (disch := omega) only [w194_4]
      simp (disch := (first | assumption | omega | exact Nat.le_of_ble_eq_true rfl | rfl)) only [w194_0, w194_1, w194_5, w194_7, w194_10, w194_13, w194_14, w194_17, w194_18, w194_20, w194_23, w194_26, Ko_n, Ko_v, vX_i, vX_r, vX_l, vX_j, reduceIte]
      rw [c187w (i := 20) rfl hF hn hf hs (by omega)]
      cases hz : isWd f 20 s with
      | false =>
        rw [lpG_0 (n := n) hz, tkW_f hz]
        simp (disch := (first | assumption | omega | exact Nat.le_of_ble_eq_true rfl | rfl)) only [w194_0, w194_1, w194_5, w194_7, w194_10, w194_13, w194_14, w194_17, w194_18, w194_20, w194_23, w194_26, Ko_n, Ko_v, vX_i, vX_r, vX_l, vX_j, reduceIte, Bool.false_eq_true]
      | true =>
        have hh := isWd_h hz
        have on := lp_on (c := 17) (m := m) hf hL hs hk hd D1 hh.1 (by omega) (hm hh.1)
        have ih' := ih _ on.1.1 (Lo_k on.1 hk) (by rw [on.1.2.1]; omega) on.2
        have r := rdOn_O hf hs
        have rk := Lo_k (Lo_rd hf hs) hk
        have b := hL _ r.1 rk hd (fun z => by omega)
        have hc := fun k Q => hC d k Q _ r.1 rk hd (fun z => by omega)
        rw [show d + (e + 14) = d + e + 14 by omega] at hc
        rw [show lpG (isWd f 20) (fun s => lay 17 (F (rdOn f n s))) (m + 1) s = lpG (isWd f 20) (fun s => lay 17 (F (rdOn f n s))) m (lay 17 (F (rdOn f n s))) by simp only [lpG]; rw [if_pos hz], tkW_t hz]
        simp (disch := (first | assumption | omega | exact Nat.le_of_ble_eq_true rfl | rfl)) only [w194_0, w194_1, w194_5, w194_7, w194_10, w194_13, w194_14, w194_17, w194_18, w194_20, w194_23, w194_26, Ko_n, Ko_v, vX_i, vX_r, vX_l, vX_j, reduceIte, Int.reduceEq]
        rw [hc]
        simp (disch := (first | assumption | omega | exact Nat.le_of_ble_eq_true rfl | rfl)) only [w194_0, w194_1, w194_5, w194_7, w194_10, w194_13, w194_14, w194_17, w194_18, w194_20, w194_23, w194_26, Ko_n, Ko_v, vX_i, vX_r, vX_l, vX_j, reduceIte]
        rw [c192 b.1 (Lo_k b rk).1 (kO_9 b.1 (Lo_k b rk) hn9.2)]
        simp (disch := (first | assumption | omega | exact Nat.le_of_ble_eq_true rfl | rfl)) only [w194_0, w194_1, w194_5, w194_7, w194_10, w194_13, w194_14, w194_17, w194_18, w194_20, w194_23, w194_26, Ko_n, Ko_v, vX_i, vX_r, vX_l, vX_j, reduceIte]
        exact ih'
  have hc := fun k Q => hC d k Q s hs hk hd h7
  rw [show d + (e + 14) = d + e + 14 by omega] at hc
  have b := hL s hs hk hd h7
  have b3 := b.1.2.2.1
  rw [show d + (e + 15) = d + e + 15 by omega, n194 _ _ _ _ _ _ h0]
  simp (disch := (first | assumption | omega | exact Nat.le_of_ble_eq_true rfl | rfl)) only [w194_0, w194_1, w194_5, w194_7, w194_10, w194_13, w194_14, w194_17, w194_18, w194_20, w194_23, w194_26, Ko_n, Ko_v, vX_i, vX_r, vX_l, vX_j, reduceIte]
  rw [hc]
  simp (disch := (first | assumption | omega | exact Nat.le_of_ble_eq_true rfl | rfl)) only [w194_0, w194_1, w194_5, w194_7, w194_10, w194_13, w194_14, w194_17, w194_18, w194_20, w194_23, w194_26, Ko_n, Ko_v, vX_i, vX_r, vX_l, vX_j, reduceIte]
  exact loop 901 _ b.1 (Lo_k b hk) (by rw [b.2.1]; omega) (fun _ => by omega)
/-! levels -/
theorem rL_op {n D : Int} {F : Ps → Ps} (hD : D ≤ 6) : rL n D F ↔ opC n D F := ⟨fun h s a b c => h s a b c (fun z => by omega), fun h s a b c _ => h s a b c⟩
theorem rL_id {n D : Int} : rL n D (fun s => s) := fun s hs _ _ _ => Lo_r hs
theorem rL_sm {f : Int → Int} {n D : Int} {sub : Ps → Ps} (hf : tpOk f n) (hD : D ≤ 6) (h : rL n (D + 1) sub) : rL n D (pSm f n sub) := by
  have h1 : opC n D (pAtm f n sub) := Lo_atm hf hD fun s a b c e => h s a b c (fun z => e (by omega))
  have h2 : opC n D (pTrm f n sub) := Lo_trm hf h1
  have h3 : opC n D (pSm f n sub) := Lo_sm hf h2
  exact (rL_op hD).mpr h3
theorem rC_sm {e : Nat} {f : Int → Int} {n D : Int} {T : Tt} {σ : St} {sub : Ps → Ps} (hF : σ 1205 382 = f) (hn : σ 1207 382 0 = n) (hf : tpOk f n) (hD : D ≤ 6) (h : rL n (D + 1) sub) (hC : rC T σ n (D + 1) 197 (e + 9) sub) : rC T σ n D 197 (e + 12) (pSm f n sub) := by
  have h1 : opC n D (pAtm f n sub) := Lo_atm hf hD fun s a b c e => h s a b c (fun z => e (by omega))
  have h2 : opC n D (pTrm f n sub) := Lo_trm hf h1
  exact c197 hF hn hf hD ((rL_op hD).mpr h2) (c198 hF hn hf hD ((rL_op hD).mpr h1) (c200 hF hn hf hD h hC))
theorem smD_ok {f : Int → Int} {n : Int} {T : Tt} {σ : St} (hF : σ 1205 382 = f) (hn : σ 1207 382 0 = n) (hf : tpOk f n) : ∀ m : Nat, m ≤ 6 → rL n (6 - m) (smD f n m) ∧ rC T σ n (6 - m) 197 (3 * m + 12) (smD f n m)
  | 0, _ => by
    have hid : rC T σ n (6 + 1) 197 (0 + 9) (fun s => s) := fun d k Q s hs _ hd h7 => c197b (d := d + 7) hs (h7 rfl)
    exact ⟨rL_sm hf (by omega) rL_id, rC_sm hF hn hf (by omega) rL_id hid⟩
  | m + 1, h => by
    have ih := smD_ok (T := T) hF hn hf m (by omega)
    have e1 : (6 : Int) - ((m + 1 : Nat) : Int) + 1 = 6 - (m : Int) := by omega
    refine ⟨rL_sm hf (by omega) (by rw [e1]; exact ih.1), ?_⟩
    have := rC_sm (e := 3 * m + 3) (D := (6 : Int) - ((m + 1 : Nat) : Int)) hF hn hf (by omega) (by rw [e1]; exact ih.1) (by rw [e1, show 3 * m + 3 + 9 = 3 * m + 12 by omega]; exact ih.2)
    rwa [show 3 * m + 3 + 12 = 3 * (m + 1) + 12 by omega] at this
theorem rL_tr {f : Int → Int} {n D : Int} {u : Ps → Ps} (hf : tpOk f n) (hD : D ≤ 6) (h : rL n D u) : rL n D (pBth f n u) ∧ rL n D (pTru f n u) := by
  have h1 : opC n D (pBth f n u) := Lo_bth hf ((rL_op hD).mp h)
  have h2 : opC n D (pTru f n u) := Lo_bth hf h1
  exact ⟨(rL_op hD).mpr h1, (rL_op hD).mpr h2⟩
theorem rC_tr {e : Nat} {f : Int → Int} {n D : Int} {T : Tt} {σ : St} {u : Ps → Ps} (hF : σ 1205 382 = f) (hn : σ 1207 382 0 = n) (hf : tpOk f n) (hD : D ≤ 6) (h : rL n D u) (hC : rC T σ n D 196 (e + 13) u) : rC T σ n D 194 (e + 15) (pTru f n u) := c194 hF hn hf hD (rL_tr hf hD h).1 (c195 hF hn hf hD h hC)
theorem unD_ok {f : Int → Int} {n : Int} {T : Tt} {σ : St} (hF : σ 1205 382 = f) (hn : σ 1207 382 0 = n) (hf : tpOk f n) : ∀ m : Nat, m ≤ 6 → rL n (6 - m) (unD f n m) ∧ rC T σ n (6 - m) 196 (3 * m + 13) (unD f n m)
  | 0, _ => by
    have hs := smD_ok (T := T) hF hn hf 0 (by omega)
    have h1 : rC T σ n (6 + 1) 196 (0 + 10) (fun s => s) := fun d k Q s hs _ hd h7 => c196b (d := d + 10) hs (h7 rfl)
    have h2 : rC T σ n (6 + 1) 194 (0 + 12) (fun s => s) := fun d k Q s hs _ hd h7 => c194b (d := d + 5) hF hn hf hs (h7 rfl)
    refine ⟨(rL_op (by omega)).mpr (Lo_unt hf (by omega) (fun s hs _ _ _ => Lo_r hs) (fun s hs _ _ _ => Lo_r hs) ((rL_op (by omega)).mp hs.1)), ?_⟩
    exact c196 (e := 0) hF hn hf (by omega) rL_id rL_id hs.1 h1 h2 hs.2
  | m + 1, h => by
    have ih := unD_ok (T := T) hF hn hf m (by omega)
    have hs := smD_ok (T := T) hF hn hf (m + 1) h
    have e1 : (6 : Int) - ((m + 1 : Nat) : Int) + 1 = 6 - (m : Int) := by omega
    have hT := rL_tr hf (by omega) ih.1
    have hTC := rC_tr hF hn hf (by omega) ih.1 ih.2
    refine ⟨(rL_op (by omega)).mpr (Lo_unt hf (by omega) (fun s a b c e => ih.1 s a b (by rw [c]; omega) (fun z => e (by omega))) (fun s a b c e => hT.2 s a b (by rw [c]; omega) (fun z => e (by omega))) ((rL_op (by omega)).mp hs.1)), ?_⟩
    have := c196 (e := 3 * m + 3) (D := (6 : Int) - ((m + 1 : Nat) : Int)) hF hn hf (by omega) (by rw [e1]; exact ih.1) (by rw [e1]; exact hT.2) hs.1 (by rw [e1, show 3 * m + 3 + 10 = 3 * m + 13 by omega]; exact ih.2) (by rw [e1, show 3 * m + 3 + 12 = 3 * m + 15 by omega]; exact hTC) (by rw [show 3 * m + 3 + 12 = 3 * (m + 1) + 12 by omega]; exact hs.2)
    rwa [show 3 * m + 3 + 13 = 3 * (m + 1) + 13 by omega] at this
theorem truD_ok {f : Int → Int} {n : Int} {T : Tt} {σ : St} (hF : σ 1205 382 = f) (hn : σ 1207 382 0 = n) (hf : tpOk f n) : rL n 0 (pTru f n (unD f n 6)) ∧ rC T σ n 0 194 33 (pTru f n (unD f n 6)) := by
  have h := unD_ok (T := T) hF hn hf 6 (by omega)
  exact ⟨(rL_tr hf (by omega) h.1).2, rC_tr (e := 18) hF hn hf (by omega) h.1 h.2⟩
