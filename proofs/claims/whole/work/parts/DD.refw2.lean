/-! ===== the reference: walker ===== -/
def wkR (K : Int → Int) (w wh : Int) : Int := if wh = 0 then K (79 + w) else if wh = 1 then K (84 + w) else if wh = 2 then (if frB (K 92) w then 1 else 0) else if wh = 3 then K (93 + w) else if wh % 10 < K (93 + w) then (if wh < 20 then K (98 + 4 * w + wh % 10) else K (118 + 4 * w + wh % 10)) else -1
theorem c228 {d : Nat} {k w wh B : Int} {K : Int → Int} {T : Tt} {σ : St} {Q : vmO → vmH → Prop} (hK : σ 1200 382 = K) (hv : kV K B) (x0 : -2147483648 ≤ w) (x1 : w < 2147483648) (y0 : -2147483648 ≤ wh) (y1 : wh < 2147483648)
    (hQ1 : ∀ u, ((¬ (0 ≤ w ∧ w < K 3) ∧ u = 1) ∨ ((0 ≤ w ∧ w < K 3) ∧ ¬ whV wh ∧ u = 2)) → ∀ τ, fT σ τ → τ 1200 382 = K → τ 1204 382 0 = u → Q (.inl (some (.int (i32 0)))) (E T τ))
    (hQ2 : (0 ≤ w ∧ w < K 3) → whV wh → ∀ τ, fT σ τ → τ 1200 382 = K → τ 1204 382 0 = 0 → Q (.inl (some (.int (i32 (wkR K w wh))))) (E T τ)) : Ca (d + 6) k 228 [.ref 382, .int (i32 w), .int (i32 wh)] (E T σ) Q := by
  have h0 := ob_md
  have h3 := hv.1.2.1
  have hf := hv.1.2.2.2.2.2.1
  have kU : ∀ u, (upA σ 1204 382 fun _ => u) 1200 382 = K := fun u => by rw [upA_t (by omega)]; exact hK
  have fU : ∀ u, fT σ (upA σ 1204 382 fun _ => u) := fun u => fT_u fT_r (by omega)
  have sU : ∀ u, (upA σ 1204 382 fun _ => u) 1204 382 0 = u := fun u => by rw [upA_s]
  rw [n228 _ _ _ _ _ _ _ _ h0]
  simp (disch := (first | assumption | omega | exact Nat.le_of_ble_eq_true rfl | rfl)) only [w228_0, w228_1, w228_2, w228_3, w228_4, Ko_n, Ko_v, vX_i, vX_r, vX_l, vX_j, reduceIte]
  rw [c215 hK hv (by omega) (by omega)]
  by_cases a : 0 ≤ w ∧ w < K 3
  · rw [if_pos a]
    have hen := hv.1.2.2.2.2.2.2.1 w a.1 (by omega)
    have good : whV wh → Wp (d + 6) M_X12_walker 54 [.ref 382, .int (i32 w), .int (i32 wh)] [.ref 382] (E T σ) Q := by
      intro b
      have hq := hQ2 a b
      unfold wkR at hq
      simp (disch := (first | assumption | omega | exact Nat.le_of_ble_eq_true rfl | rfl)) only [w228_54, w228_55, w228_58, w228_59, w228_62, w228_63, w228_66, w228_69, w228_70, w228_71, Ko_n, Ko_v, vX_i, vX_r, vX_l, vX_j, reduceIte, upA_s, Int.le_refl]
      unfold whV at b
      have hsw : wh = 0 ∨ wh = 1 ∨ wh = 2 ∨ wh = 3 ∨ 10 ≤ wh := by omega
      rcases hsw with rfl | rfl | rfl | rfl | hw
      · simp (disch := (first | assumption | omega | exact Nat.le_of_ble_eq_true rfl | rfl)) only [w228_72, w228_104, w228_105, w228_108, w228_110, w228_111, w228_112, w228_113, w228_114, w228_115, w228_118, w228_120, w228_121, w228_122, w228_123, w228_124, w228_125, w228_128, w228_130, w228_131, w228_132, w228_135, w228_138, w228_139, w228_142, w228_143, w228_144, w228_145, w228_148, w228_150, w228_151, w228_152, w228_153, w228_154, w228_155, w228_157, w228_158, w228_159, w228_162, w228_164, w228_165, w228_166, w228_167, w228_170, w228_171, w228_174, w228_175, w228_178, w228_179, w228_181, w228_184, w228_186, w228_189, w228_191, w228_192, w228_193, w228_194, w228_195, w228_196, w228_198, w228_199, w228_200, w228_201, Ko_n, Ko_v, vX_i, vX_r, vX_l, vX_j, reduceIte, vmSwitch, Int.reduceEq, kU]
        exact hq _ (fU _) (kU _) (sU _)
      · simp (disch := (first | assumption | omega | exact Nat.le_of_ble_eq_true rfl | rfl)) only [w228_72, w228_104, w228_105, w228_108, w228_110, w228_111, w228_112, w228_113, w228_114, w228_115, w228_118, w228_120, w228_121, w228_122, w228_123, w228_124, w228_125, w228_128, w228_130, w228_131, w228_132, w228_135, w228_138, w228_139, w228_142, w228_143, w228_144, w228_145, w228_148, w228_150, w228_151, w228_152, w228_153, w228_154, w228_155, w228_157, w228_158, w228_159, w228_162, w228_164, w228_165, w228_166, w228_167, w228_170, w228_171, w228_174, w228_175, w228_178, w228_179, w228_181, w228_184, w228_186, w228_189, w228_191, w228_192, w228_193, w228_194, w228_195, w228_196, w228_198, w228_199, w228_200, w228_201, Ko_n, Ko_v, vX_i, vX_r, vX_l, vX_j, reduceIte, vmSwitch, Int.reduceEq, kU]
        exact hq _ (fU _) (kU _) (sU _)
      · simp (disch := (first | assumption | omega | exact Nat.le_of_ble_eq_true rfl | rfl)) only [w228_72, w228_104, w228_105, w228_108, w228_110, w228_111, w228_112, w228_113, w228_114, w228_115, w228_118, w228_120, w228_121, w228_122, w228_123, w228_124, w228_125, w228_128, w228_130, w228_131, w228_132, w228_135, w228_138, w228_139, w228_142, w228_143, w228_144, w228_145, w228_148, w228_150, w228_151, w228_152, w228_153, w228_154, w228_155, w228_157, w228_158, w228_159, w228_162, w228_164, w228_165, w228_166, w228_167, w228_170, w228_171, w228_174, w228_175, w228_178, w228_179, w228_181, w228_184, w228_186, w228_189, w228_191, w228_192, w228_193, w228_194, w228_195, w228_196, w228_198, w228_199, w228_200, w228_201, Ko_n, Ko_v, vX_i, vX_r, vX_l, vX_j, reduceIte, vmSwitch, Int.reduceEq, kU]
        rw [c177 (by omega) (by omega) (by omega) (by omega) (by omega)]
        simp only [Int.reduceEq, if_false, if_true] at hq
        cases e : frB (K 92) w with
        | true => rw [e] at hq; simp (disch := (first | assumption | omega | exact Nat.le_of_ble_eq_true rfl | rfl)) only [w228_72, w228_104, w228_105, w228_108, w228_110, w228_111, w228_112, w228_113, w228_114, w228_115, w228_118, w228_120, w228_121, w228_122, w228_123, w228_124, w228_125, w228_128, w228_130, w228_131, w228_132, w228_135, w228_138, w228_139, w228_142, w228_143, w228_144, w228_145, w228_148, w228_150, w228_151, w228_152, w228_153, w228_154, w228_155, w228_157, w228_158, w228_159, w228_162, w228_164, w228_165, w228_166, w228_167, w228_170, w228_171, w228_174, w228_175, w228_178, w228_179, w228_181, w228_184, w228_186, w228_189, w228_191, w228_192, w228_193, w228_194, w228_195, w228_196, w228_198, w228_199, w228_200, w228_201, Ko_n, Ko_v, vX_i, vX_r, vX_l, vX_j, reduceIte, Int.reduceEq]; exact hq _ (fU _) (kU _) (sU _)
        | false => rw [e] at hq; simp (disch := (first | assumption | omega | exact Nat.le_of_ble_eq_true rfl | rfl)) only [w228_72, w228_104, w228_105, w228_108, w228_110, w228_111, w228_112, w228_113, w228_114, w228_115, w228_118, w228_120, w228_121, w228_122, w228_123, w228_124, w228_125, w228_128, w228_130, w228_131, w228_132, w228_135, w228_138, w228_139, w228_142, w228_143, w228_144, w228_145, w228_148, w228_150, w228_151, w228_152, w228_153, w228_154, w228_155, w228_157, w228_158, w228_159, w228_162, w228_164, w228_165, w228_166, w228_167, w228_170, w228_171, w228_174, w228_175, w228_178, w228_179, w228_181, w228_184, w228_186, w228_189, w228_191, w228_192, w228_193, w228_194, w228_195, w228_196, w228_198, w228_199, w228_200, w228_201, Ko_n, Ko_v, vX_i, vX_r, vX_l, vX_j, reduceIte, Bool.false_eq_true]; exact hq _ (fU _) (kU _) (sU _)
      · simp (disch := (first | assumption | omega | exact Nat.le_of_ble_eq_true rfl | rfl)) only [w228_72, w228_104, w228_105, w228_108, w228_110, w228_111, w228_112, w228_113, w228_114, w228_115, w228_118, w228_120, w228_121, w228_122, w228_123, w228_124, w228_125, w228_128, w228_130, w228_131, w228_132, w228_135, w228_138, w228_139, w228_142, w228_143, w228_144, w228_145, w228_148, w228_150, w228_151, w228_152, w228_153, w228_154, w228_155, w228_157, w228_158, w228_159, w228_162, w228_164, w228_165, w228_166, w228_167, w228_170, w228_171, w228_174, w228_175, w228_178, w228_179, w228_181, w228_184, w228_186, w228_189, w228_191, w228_192, w228_193, w228_194, w228_195, w228_196, w228_198, w228_199, w228_200, w228_201, Ko_n, Ko_v, vX_i, vX_r, vX_l, vX_j, reduceIte, vmSwitch, Int.reduceEq, kU]
        exact hq _ (fU _) (kU _) (sU _)
      · have r0 := Int.emod_nonneg wh (show (10 : Int) ≠ 0 by omega)
        have r1 : wh % 10 ≤ 3 := by omega
        rw [if_neg (by omega), if_neg (by omega), if_neg (by omega), if_neg (by omega)] at hq
        simp (disch := (first | assumption | omega | exact Nat.le_of_ble_eq_true rfl | rfl)) only [w228_72, w228_104, w228_105, w228_108, w228_110, w228_111, w228_112, w228_113, w228_114, w228_115, w228_118, w228_120, w228_121, w228_122, w228_123, w228_124, w228_125, w228_128, w228_130, w228_131, w228_132, w228_135, w228_138, w228_139, w228_142, w228_143, w228_144, w228_145, w228_148, w228_150, w228_151, w228_152, w228_153, w228_154, w228_155, w228_157, Ko_n, Ko_v, vX_i, vX_r, vX_l, vX_j, reduceIte, vmSwitch, show ¬ wh = 0 by omega, show ¬ wh = 1 by omega, show ¬ wh = 2 by omega, show ¬ wh = 3 by omega]
        by_cases e : wh % 10 < K (93 + w)
        · rw [if_pos e] at hq
          by_cases e2 : wh < 20
          · rw [if_pos e2] at hq
            simp (disch := (first | assumption | omega | exact Nat.le_of_ble_eq_true rfl | rfl)) only [w228_158, w228_159, w228_162, w228_164, w228_165, w228_166, w228_167, w228_170, w228_171, w228_174, w228_175, w228_178, w228_179, w228_181, w228_184, w228_186, w228_189, w228_191, w228_192, w228_193, w228_194, w228_195, w228_196, w228_198, w228_199, w228_200, w228_201, Ko_n, Ko_v, vX_i, vX_r, vX_l, vX_j, reduceIte, kU, e, e2, show ¬ 20 ≤ wh by omega]
            exact hq _ (fU _) (kU _) (sU _)
          · rw [if_neg e2] at hq
            simp (disch := (first | assumption | omega | exact Nat.le_of_ble_eq_true rfl | rfl)) only [w228_158, w228_159, w228_162, w228_164, w228_165, w228_166, w228_167, w228_170, w228_171, w228_174, w228_175, w228_178, w228_179, w228_181, w228_184, w228_186, w228_189, w228_191, w228_192, w228_193, w228_194, w228_195, w228_196, w228_198, w228_199, w228_200, w228_201, Ko_n, Ko_v, vX_i, vX_r, vX_l, vX_j, reduceIte, kU, e, show 20 ≤ wh by omega]
            exact hq _ (fU _) (kU _) (sU _)
        · rw [if_neg e] at hq
          simp (disch := (first | assumption | omega | exact Nat.le_of_ble_eq_true rfl | rfl)) only [w228_158, w228_159, w228_162, w228_164, w228_165, w228_166, w228_167, w228_170, w228_171, w228_174, w228_175, w228_178, w228_179, w228_181, w228_184, w228_186, w228_189, w228_191, w228_192, w228_193, w228_194, w228_195, w228_196, w228_198, w228_199, w228_200, w228_201, Ko_n, Ko_v, vX_i, vX_r, vX_l, vX_j, reduceIte, kU, e]
          exact hq _ (fU _) (kU _) (sU _)
    simp (disch := (first | assumption | omega | exact Nat.le_of_ble_eq_true rfl | rfl)) only [w228_7, w228_10, w228_11, w228_14, w228_15, w228_16, w228_17, w228_20, Ko_n, Ko_v, vX_i, vX_r, vX_l, vX_j, reduceIte, Int.reduceEq, not_false_eq_true]
    rw [c176 (by omega) (by omega) (by omega) (by omega) (by omega) (by omega) (by omega)]
    by_cases b1 : 0 ≤ wh ∧ wh ≤ 3
    · rw [if_pos b1]
      simp (disch := (first | assumption | omega | exact Nat.le_of_ble_eq_true rfl | rfl)) only [w228_23, w228_26, w228_27, w228_28, w228_31, w228_34, w228_37, w228_40, w228_41, w228_42, w228_45, w228_48, w228_51, Ko_n, Ko_v, vX_i, vX_r, vX_l, vX_j, reduceIte, Int.reduceEq, not_false_eq_true]
      exact good (Or.inl b1)
    · rw [if_neg b1]
      simp (disch := (first | assumption | omega | exact Nat.le_of_ble_eq_true rfl | rfl)) only [w228_23, w228_26, w228_27, w228_28, w228_31, w228_34, Ko_n, Ko_v, vX_i, vX_r, vX_l, vX_j, reduceIte, not_true]
      rw [c176 (by omega) (by omega) (by omega) (by omega) (by omega) (by omega) (by omega)]
      by_cases b2 : 10 ≤ wh ∧ wh ≤ 13
      · rw [if_pos b2]
        simp (disch := (first | assumption | omega | exact Nat.le_of_ble_eq_true rfl | rfl)) only [w228_37, w228_40, w228_41, w228_42, w228_45, w228_48, w228_51, Ko_n, Ko_v, vX_i, vX_r, vX_l, vX_j, reduceIte, Int.reduceEq, not_false_eq_true]
        exact good (Or.inr (Or.inl b2))
      · rw [if_neg b2]
        simp (disch := (first | assumption | omega | exact Nat.le_of_ble_eq_true rfl | rfl)) only [w228_37, w228_40, w228_41, w228_42, w228_45, w228_48, Ko_n, Ko_v, vX_i, vX_r, vX_l, vX_j, reduceIte, not_true]
        rw [c176 (by omega) (by omega) (by omega) (by omega) (by omega) (by omega) (by omega)]
        by_cases b3 : 20 ≤ wh ∧ wh ≤ 23
        · rw [if_pos b3]
          simp (disch := (first | assumption | omega | exact Nat.le_of_ble_eq_true rfl | rfl)) only [w228_51, Ko_n, Ko_v, vX_i, vX_r, vX_l, vX_j, reduceIte, Int.reduceEq, not_false_eq_true]
          exact good (Or.inr (Or.inr b3))
        · rw [if_neg b3]
          simp (disch := (first | assumption | omega | exact Nat.le_of_ble_eq_true rfl | rfl)) only [w228_51, w228_54, w228_55, w228_58, w228_59, w228_62, w228_63, w228_66, w228_69, w228_70, w228_71, Ko_n, Ko_v, vX_i, vX_r, vX_l, vX_j, reduceIte, upA_s, show ¬ (2 : Int) ≤ 0 by omega]
          exact hQ1 2 (Or.inr ⟨a, fun h => by unfold whV at h; omega, rfl⟩) _ (fU _) (kU _) (sU _)
  · rw [if_neg a]
    simp (disch := (first | assumption | omega | exact Nat.le_of_ble_eq_true rfl | rfl)) only [w228_7, w228_10, w228_11, w228_14, w228_15, w228_16, w228_17, w228_20, w228_23, w228_26, w228_27, w228_28, w228_31, w228_34, w228_37, w228_40, w228_41, w228_42, w228_45, w228_48, w228_51, w228_54, w228_55, w228_58, w228_59, w228_62, w228_63, w228_66, w228_69, w228_70, w228_71, Ko_n, Ko_v, vX_i, vX_r, vX_l, vX_j, reduceIte, not_true, upA_s, show ¬ (1 : Int) ≤ 0 by omega]
    exact hQ1 1 (Or.inl ⟨a, rfl⟩) _ (fU _) (kU _) (sU _)
