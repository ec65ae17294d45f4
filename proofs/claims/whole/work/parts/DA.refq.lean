/-! ===== the reference: decade; small answers ===== -/
theorem c257 {d : Nat} {k sd tm B : Int} {K : Int → Int} {T : Tt} {σ : St} {Q : vmO → vmH → Prop} (hK : σ 1200 382 = K) (hv : kV K B) (hB : B < 800000000) (hl : lwV K) (hr : rwK K) (y0 : -2147483648 ≤ tm) (y1 : tm < 2147483648)
    (hQ1 : ∀ u, ((¬ (1 ≤ tm ∧ tm ≤ 30) ∧ u = 1) ∨ ((1 ≤ tm ∧ tm ≤ 30) ∧ K 1 * K 2 = 0 ∧ u = 2)) → ∀ τ, fT σ τ → τ 1200 382 = K → τ 1204 382 0 = u → Q (.inl (some (.int (i32 0)))) (E T τ))
    (hQ2 : 1 ≤ tm → tm ≤ 30 → K 1 * K 2 ≠ 0 → ∀ τ, fT σ τ → τ 1200 382 = (dcK tm.toNat K sd 0).2 → τ 1204 382 0 = 0 → lwV (dcK tm.toNat K sd 0).2 → rwK (dcK tm.toNat K sd 0).2 → Q (.inl (some (.int (i32 (dcK tm.toNat K sd 0).1)))) (E T τ)) : Ca (d + 8) k 257 [.ref 382, .int (i32 sd), .int (i32 tm)] (E T σ) Q := by
  have h0 := ob_md
  have hm := wh_mul0 hv.1.1
  rw [n257 _ _ _ _ _ _ _ _ h0]
  simp (disch := (first | assumption | omega | exact Nat.le_of_ble_eq_true rfl | rfl)) only [w257_0, w257_1, w257_2, w257_3, w257_4, w257_7, w257_10, w257_13, w257_14, w257_17, w257_18, w257_21, w257_24, w257_25, w257_28, w257_29, w257_32, w257_33, w257_36, w257_39, w257_40, w257_41, w257_42, w257_43, w257_46, w257_47, w257_48, w257_49, w257_53, w257_54, w257_57, w257_58, w257_59, w257_62, w257_64, w257_66, w257_67, w257_70, w257_71, w257_74, w257_75, w257_76, w257_79, w257_82, w257_83, w257_85, w257_87, w257_88, w257_91, w257_93, w257_94, w257_95, w257_98, w257_99, w257_100, w257_103, w257_104, w257_106, w257_108, w257_111, w257_112, w257_113, w257_116, w257_119, w257_121, w257_123, w257_124, w257_127, w257_129, w257_131, w257_132, w257_135, w257_137, w257_138, w257_141, w257_144, w257_146, w257_147, w257_150, w257_153, w257_155, w257_156, w257_158, w257_160, w257_161, w257_164, w257_166, w257_168, w257_169, w257_170, w257_171, w257_174, w257_175, w257_176, w257_177, w257_179, w257_180, w257_182, w257_183, w257_186, w257_189, w257_192, w257_193, w257_196, w257_197, w257_199, w257_202, w257_205, w257_208, w257_211, w257_212, Ko_n, Ko_v, vX_i, vX_r, vX_l, vX_j, reduceIte]
  rw [c176 (by omega) (by omega) (by omega) (by omega) (by omega) (by omega) (by omega)]
  by_cases a : 1 ≤ tm ∧ tm ≤ 30
  · rw [if_pos a]
    simp (disch := (first | assumption | omega | exact Nat.le_of_ble_eq_true rfl | rfl)) only [w257_10, w257_13, w257_14, w257_17, w257_18, w257_21, w257_24, w257_25, w257_28, w257_29, w257_32, w257_33, w257_36, w257_39, w257_40, w257_41, w257_42, w257_43, w257_46, w257_47, w257_48, w257_49, Ko_n, Ko_v, vX_i, vX_r, vX_l, vX_j, reduceIte, Int.reduceEq, not_false_eq_true]
    rw [c210 hK]
    by_cases b : K 1 * K 2 = 0
    · simp (disch := (first | assumption | omega | exact Nat.le_of_ble_eq_true rfl | rfl)) only [w257_10, w257_13, w257_14, w257_17, w257_18, w257_21, w257_24, w257_25, w257_28, w257_29, w257_32, w257_33, w257_36, w257_39, w257_40, w257_41, w257_42, w257_43, w257_46, w257_47, w257_48, w257_49, Ko_n, Ko_v, vX_i, vX_r, vX_l, vX_j, reduceIte, b, not_true, upA_s, show ¬ (2 : Int) ≤ 0 by omega]
      exact hQ1 2 (Or.inr ⟨a, b, rfl⟩) _ (fT_u fT_r (by omega)) (by rw [upA_t (by omega)]; exact hK) (by rw [upA_s])
    · simp (disch := (first | assumption | omega | exact Nat.le_of_ble_eq_true rfl | rfl)) only [w257_10, w257_13, w257_14, w257_17, w257_18, w257_21, w257_24, w257_25, w257_28, w257_29, w257_32, w257_33, w257_36, w257_39, w257_40, w257_41, w257_42, w257_43, w257_46, w257_47, w257_48, w257_49, Ko_n, Ko_v, vX_i, vX_r, vX_l, vX_j, reduceIte, b, not_false_eq_true, upA_s, Int.le_refl]
      have hq := hQ2 a.1 a.2 b
      have loop : ∀ (m i : Nat) (τ : St) (K' : Int → Int) (B' s n : Int) (l5 l6 l7 : Value), (i : Int) + m = tm → fT σ τ → τ 1200 382 = K' → τ 1204 382 0 = 0 → τ 1223 382 0 = s → kV K' B' → lwV K' → rwK K' → K' 1 * K' 2 = K 1 * K 2 → B' + 6516 * m < 900000000 → (0 ≤ n ∧ n ≤ i) → dcK tm.toNat K sd 0 = dcK m K' s n → Wp (d + 8) M_X12_decade 51 [.ref 382, .int (i32 sd), .int (i32 tm), .int (i32 n), .int (i32 i), l5, l6, l7] [] (E T τ) Q := by
        intro m
        induction m with
        | zero =>
          intro i τ K' B' s n l5 l6 l7 hi h1 h2 h3 h4 h6 hl' hr' h12 h7 hn h8
          have hi' : (i : Int) = tm := by omega
          rw [h8] at hq
          rw [w257_51]
          simp (disch := (first | assumption | omega | exact Nat.le_of_ble_eq_true rfl | rfl)) only [w257_0, w257_1, w257_2, w257_3, w257_4, w257_7, w257_10, w257_13, w257_14, w257_17, w257_18, w257_21, w257_24, w257_25, w257_28, w257_29, w257_32, w257_33, w257_36, w257_39, w257_40, w257_41, w257_42, w257_43, w257_46, w257_47, w257_48, w257_49, w257_53, w257_54, w257_57, w257_58, w257_59, w257_62, w257_64, w257_66, w257_67, w257_70, w257_71, w257_74, w257_75, w257_76, w257_79, w257_82, w257_83, w257_85, w257_87, w257_88, w257_91, w257_93, w257_94, w257_95, w257_98, w257_99, w257_100, w257_103, w257_104, w257_106, w257_108, w257_111, w257_112, w257_113, w257_116, w257_119, w257_121, w257_123, w257_124, w257_127, w257_129, w257_131, w257_132, w257_135, w257_137, w257_138, w257_141, w257_144, w257_146, w257_147, w257_150, w257_153, w257_155, w257_156, w257_158, w257_160, w257_161, w257_164, w257_166, w257_168, w257_169, w257_170, w257_171, w257_174, w257_175, w257_176, w257_177, w257_179, w257_180, w257_182, w257_183, w257_186, w257_189, w257_192, w257_193, w257_196, w257_197, w257_199, w257_202, w257_205, w257_208, w257_211, w257_212, Ko_n, Ko_v, vX_i, vX_r, vX_l, vX_j, reduceIte, hi', Int.le_refl]
          exact hq τ h1 h2 h3 hl' hr'
        | succ m ih =>
          intro i τ K' B' s n l5 l6 l7 hi h1 h2 h3 h4 h6 hl' hr' h12 h7 hn h8
          have u0 := us_16 (lcg s)
          have u1 := us_16 (lcg (lcg s))
          have u2 := us_16 (lcg (lcg (lcg s)))
          have q4a := Int.emod_nonneg (us (lcg s) 16) (show (4 : Int) ≠ 0 by omega)
          have q4b := Int.emod_lt_of_pos (us (lcg s) 16) (show (0 : Int) < 4 by omega)
          have n36 := wh_mul0 h6.1.1
          have hN0 : 0 < K' 1 * K' 2 := by omega
          have f0 := fun u => Int.emod_nonneg u (show K' 1 * K' 2 ≠ 0 by omega)
          have f1 := fun u => Int.emod_lt_of_pos u hN0
          have k3 := h6.1.2.1
          simp only [dcK] at h8
          have hn2 : 0 ≤ n := hn.1
          -- nothing is done
          have skip : ∀ (τ2 : St) (s2 : Int) (l5 l6 l7 : Value), fT σ τ2 → τ2 1200 382 = K' → τ2 1204 382 0 = 0 → τ2 1223 382 0 = s2 → dcK tm.toNat K sd 0 = dcK m K' s2 n → Wp (d + 8) M_X12_decade 205 [.ref 382, .int (i32 sd), .int (i32 tm), .int (i32 n), .int (i32 i), l5, l6, l7] [] (E T τ2) Q := by
            intro τ2 s2 l5 l6 l7 g1 g2 g3 g4 g5
            simp (disch := (first | assumption | omega | exact Nat.le_of_ble_eq_true rfl | rfl)) only [w257_205, w257_208, Ko_n, Ko_v, vX_i, vX_r, vX_l, vX_j, reduceIte]
            exact ih (i + 1) τ2 K' B' s2 n _ _ _ (by omega) g1 g2 g3 g4 h6 hl' hr' h12 (by omega) (by omega) g5
          -- a deed that is drawn
          have deed : ∀ (τ2 : St) (v s2 : Int) (l5 l7 : Value), fT σ τ2 → τ2 1200 382 = K' → τ2 1204 382 0 = 0 → τ2 1223 382 0 = s2 → (-1 ≤ v ∧ v < 2400) → dwD (K' 3) (K' 1 * K' 2) s = (v, s2) → Wp (d + 8) M_X12_decade 179 [.ref 382, .int (i32 sd), .int (i32 tm), .int (i32 n), .int (i32 i), l5, .int (i32 v), l7] [] (E T τ2) Q := by
            intro τ2 v s2 l5 l7 g1 g2 g3 g4 hv2 hdw
            rw [hdw] at h8
            dsimp only at h8
            have wi := whyK_in (K := K') (v := v)
            simp (disch := (first | assumption | omega | exact Nat.le_of_ble_eq_true rfl | rfl)) only [w257_179, w257_180, w257_182, w257_183, w257_186, w257_189, w257_192, w257_193, w257_196, w257_197, w257_199, w257_202, w257_205, w257_208, Ko_n, Ko_v, vX_i, vX_r, vX_l, vX_j, reduceIte]
            refine c252 g2 h6 (by omega) (by omega) (by omega) fun ρ g5 g6 => ?_
            have fr := fT_t g1 (fq_T g5)
            have r3 : ρ 1204 382 0 = 0 := by rw [g5 1204 382 (by omega)]; exact g3
            have r4 : ρ 1223 382 0 = s2 := by rw [g5 1223 382 (by omega)]; exact g4
            by_cases e : whyK K' v = 0
            · rw [if_pos e] at h8
              rw [e]
              have vk := kpK_V h6
              have lk := lw_kp h6 hl' hr'
              have lo := kpK_lo (K := K') h6.1.2.2.2.2.1.1 h6.1.2.2.2.2.1.2
              have wk : whyK (kpK K') v = 0 := by rw [mdK_why (loK_md lo) h6]; exact e
              simp (disch := (first | assumption | omega | exact Nat.le_of_ble_eq_true rfl | rfl)) only [w257_179, w257_180, w257_182, w257_183, w257_186, w257_189, w257_192, w257_193, w257_196, w257_197, w257_199, w257_202, w257_205, w257_208, Ko_n, Ko_v, vX_i, vX_r, vX_l, vX_j, reduceIte]
              rw [c238 g6 h6]
              simp (disch := (first | assumption | omega | exact Nat.le_of_ble_eq_true rfl | rfl)) only [w257_179, w257_180, w257_182, w257_183, w257_186, w257_189, w257_192, w257_193, w257_196, w257_197, w257_199, w257_202, w257_205, w257_208, Ko_n, Ko_v, vX_i, vX_r, vX_l, vX_j, reduceIte]
              refine c253 (K := kpK K') upA_s vk (by omega) lk.1 lk.2 wk fun ω f1 f2 => ?_
              have hd := doK_V vk (B' := B' + 6516) (by omega) wk
              have ld := lw_st hd.1 lk.1 lk.2
              simp (disch := (first | assumption | omega | exact Nat.le_of_ble_eq_true rfl | rfl)) only [w257_179, w257_180, w257_182, w257_183, w257_186, w257_189, w257_192, w257_193, w257_196, w257_197, w257_199, w257_202, w257_205, w257_208, Ko_n, Ko_v, vX_i, vX_r, vX_l, vX_j, reduceIte]
              exact ih (i + 1) ω _ (B' + 6516) s2 (n + 1) _ _ _ (by omega) (fT_t (fT_u fr (by omega)) (fq_T f1)) f2 (by rw [f1 1204 382 (by omega), upA_t (by omega)]; exact r3) (by rw [f1 1223 382 (by omega), upA_t (by omega)]; exact r4) (kV_act vk (by omega) hd.1 hd.2) ld.1 ld.2 (by rw [hd.1 1 (by omega), hd.1 2 (by omega), lo 1 (by omega), lo 2 (by omega)]; exact h12) (by omega) (by omega) h8
            · rw [if_neg e] at h8
              simp (disch := (first | assumption | omega | exact Nat.le_of_ble_eq_true rfl | rfl)) only [w257_179, w257_180, w257_182, w257_183, w257_186, w257_189, w257_192, w257_193, w257_196, w257_197, w257_199, w257_202, Ko_n, Ko_v, vX_i, vX_r, vX_l, vX_j, reduceIte, e]
              exact skip ρ s2 _ _ _ fr g6 r3 r4 h8
          rw [w257_51]
          simp (disch := (first | assumption | omega | exact Nat.le_of_ble_eq_true rfl | rfl)) only [w257_53, w257_54, w257_57, w257_58, w257_59, w257_62, w257_64, w257_66, w257_67, w257_70, w257_71, w257_74, w257_75, w257_76, w257_79, Ko_n, Ko_v, vX_i, vX_r, vX_l, vX_j, reduceIte, show ¬ tm ≤ (i : Int) by omega]
          rw [c256 (by omega) (by omega), h4]
          have kU : ∀ u, (upA τ 1223 382 fun _ => u) 1200 382 = K' := fun u => by rw [upA_t (by omega)]; exact h2
          have frU : ∀ u, fT σ (upA τ 1223 382 fun _ => u) := fun u => fT_u h1 (by omega)
          have tU : ∀ u, (upA τ 1223 382 fun _ => u) 1204 382 0 = 0 := fun u => by rw [upA_t (by omega)]; exact h3
          have sU : ∀ u, (upA τ 1223 382 fun _ => u) 1223 382 0 = u := fun u => by rw [upA_s]
          have h4q : us (lcg s) 16 % 4 = 0 ∨ us (lcg s) 16 % 4 = 1 ∨ us (lcg s) 16 % 4 = 2 ∨ us (lcg s) 16 % 4 = 3 := by omega
          rcases h4q with e | e | e | e
          · have hdw : dwD (K' 3) (K' 1 * K' 2) s = (-1, lcg s) := by unfold dwD; rw [if_pos e]
            rw [e]
            simp (disch := (first | assumption | omega | exact Nat.le_of_ble_eq_true rfl | rfl)) only [w257_53, w257_54, w257_57, w257_58, w257_59, w257_62, w257_64, w257_66, w257_67, w257_70, w257_71, w257_74, w257_75, w257_76, w257_79, w257_82, w257_83, w257_85, w257_87, w257_88, w257_91, w257_93, w257_94, w257_95, w257_98, w257_99, w257_100, w257_103, w257_104, w257_106, w257_108, w257_111, w257_112, w257_113, w257_116, w257_119, w257_121, w257_123, w257_124, w257_127, w257_129, w257_131, w257_132, w257_135, w257_137, w257_138, w257_141, w257_144, w257_146, w257_147, w257_150, w257_153, w257_155, w257_156, w257_158, w257_160, w257_161, w257_164, w257_166, w257_168, w257_169, w257_170, w257_171, w257_174, w257_175, w257_176, w257_177, Ko_n, Ko_v, vX_i, vX_r, vX_l, vX_j, reduceIte, Int.reduceEq, not_false_eq_true, Int.le_refl]
            exact deed _ (-1) (lcg s) _ _ (frU _) (kU _) (tU _) (sU _) (by omega) hdw
          · rw [e]
            by_cases z : K' 3 = 0
            · have hdw : dwD (K' 3) (K' 1 * K' 2) s = (-2, lcg s) := by unfold dwD; rw [if_neg (by omega), if_pos e, if_pos z]
              rw [hdw] at h8
              have hw2 : ¬ whyK K' (-2) = 0 := by
                have : whyK K' (-2) = 1 := by unfold whyK; rw [if_neg (by omega), if_pos (by omega)]
                omega
              dsimp only at h8
              rw [if_neg hw2] at h8
              simp (disch := (first | assumption | omega | exact Nat.le_of_ble_eq_true rfl | rfl)) only [w257_53, w257_54, w257_57, w257_58, w257_59, w257_62, w257_64, w257_66, w257_67, w257_70, w257_71, w257_74, w257_75, w257_76, w257_79, w257_82, w257_83, w257_85, w257_87, w257_88, w257_91, w257_93, w257_94, w257_95, w257_98, w257_99, w257_100, w257_103, w257_104, w257_106, w257_108, w257_111, w257_112, w257_113, w257_116, w257_119, w257_121, w257_123, w257_124, w257_127, w257_129, w257_131, w257_132, w257_135, w257_137, w257_138, w257_141, w257_144, w257_146, w257_147, w257_150, w257_153, w257_155, w257_156, w257_158, w257_160, w257_161, w257_164, w257_166, w257_168, w257_169, w257_170, w257_171, w257_174, w257_175, w257_176, w257_177, Ko_n, Ko_v, vX_i, vX_r, vX_l, vX_j, reduceIte, not_true, kU, z]
              exact skip _ (lcg s) _ _ _ (frU _) (kU _) (tU _) (sU _) h8
            · have w0 := Int.emod_nonneg (us (lcg (lcg s)) 16) (show K' 3 ≠ 0 by omega)
              have w1 := Int.emod_lt_of_pos (us (lcg (lcg s)) 16) (show 0 < K' 3 by omega)
              have v0 := f0 (us (lcg (lcg (lcg s))) 16)
              have v1 := f1 (us (lcg (lcg (lcg s))) 16)
              have hdw : dwD (K' 3) (K' 1 * K' 2) s = (100 * (us (lcg (lcg s)) 16 % K' 3) + us (lcg (lcg (lcg s))) 16 % (K' 1 * K' 2), lcg (lcg (lcg s))) := by unfold dwD; rw [if_neg (by omega), if_pos e, if_neg z]
              simp (disch := (first | assumption | omega | exact Nat.le_of_ble_eq_true rfl | rfl)) only [w257_53, w257_54, w257_57, w257_58, w257_59, w257_62, w257_64, w257_66, w257_67, w257_70, w257_71, w257_74, w257_75, w257_76, w257_79, w257_82, w257_83, w257_85, w257_87, w257_88, w257_91, w257_93, w257_94, w257_95, w257_98, w257_99, w257_100, w257_103, w257_104, w257_106, w257_108, w257_111, w257_112, w257_113, w257_116, w257_119, w257_121, w257_123, w257_124, w257_127, w257_129, w257_131, w257_132, w257_135, w257_137, w257_138, w257_141, w257_144, w257_146, w257_147, w257_150, w257_153, w257_155, w257_156, w257_158, w257_160, w257_161, w257_164, w257_166, w257_168, w257_169, w257_170, w257_171, w257_174, w257_175, w257_176, w257_177, Ko_n, Ko_v, vX_i, vX_r, vX_l, vX_j, reduceIte, not_true, not_false_eq_true, kU, z]
              rw [c256 (by omega) (by omega), sU]
              simp (disch := (first | assumption | omega | exact Nat.le_of_ble_eq_true rfl | rfl)) only [w257_53, w257_54, w257_57, w257_58, w257_59, w257_62, w257_64, w257_66, w257_67, w257_70, w257_71, w257_74, w257_75, w257_76, w257_79, w257_82, w257_83, w257_85, w257_87, w257_88, w257_91, w257_93, w257_94, w257_95, w257_98, w257_99, w257_100, w257_103, w257_104, w257_106, w257_108, w257_111, w257_112, w257_113, w257_116, w257_119, w257_121, w257_123, w257_124, w257_127, w257_129, w257_131, w257_132, w257_135, w257_137, w257_138, w257_141, w257_144, w257_146, w257_147, w257_150, w257_153, w257_155, w257_156, w257_158, w257_160, w257_161, w257_164, w257_166, w257_168, w257_169, w257_170, w257_171, w257_174, w257_175, w257_176, w257_177, Ko_n, Ko_v, vX_i, vX_r, vX_l, vX_j, reduceIte, upA_upA, show ¬ (1 : Int) ≤ 0 by omega]
              rw [c210 (kU _)]
              simp (disch := (first | assumption | omega | exact Nat.le_of_ble_eq_true rfl | rfl)) only [w257_53, w257_54, w257_57, w257_58, w257_59, w257_62, w257_64, w257_66, w257_67, w257_70, w257_71, w257_74, w257_75, w257_76, w257_79, w257_82, w257_83, w257_85, w257_87, w257_88, w257_91, w257_93, w257_94, w257_95, w257_98, w257_99, w257_100, w257_103, w257_104, w257_106, w257_108, w257_111, w257_112, w257_113, w257_116, w257_119, w257_121, w257_123, w257_124, w257_127, w257_129, w257_131, w257_132, w257_135, w257_137, w257_138, w257_141, w257_144, w257_146, w257_147, w257_150, w257_153, w257_155, w257_156, w257_158, w257_160, w257_161, w257_164, w257_166, w257_168, w257_169, w257_170, w257_171, w257_174, w257_175, w257_176, w257_177, Ko_n, Ko_v, vX_i, vX_r, vX_l, vX_j, reduceIte]
              rw [c256 (by omega) (by omega), sU]
              simp (disch := (first | assumption | omega | exact Nat.le_of_ble_eq_true rfl | rfl)) only [w257_53, w257_54, w257_57, w257_58, w257_59, w257_62, w257_64, w257_66, w257_67, w257_70, w257_71, w257_74, w257_75, w257_76, w257_79, w257_82, w257_83, w257_85, w257_87, w257_88, w257_91, w257_93, w257_94, w257_95, w257_98, w257_99, w257_100, w257_103, w257_104, w257_106, w257_108, w257_111, w257_112, w257_113, w257_116, w257_119, w257_121, w257_123, w257_124, w257_127, w257_129, w257_131, w257_132, w257_135, w257_137, w257_138, w257_141, w257_144, w257_146, w257_147, w257_150, w257_153, w257_155, w257_156, w257_158, w257_160, w257_161, w257_164, w257_166, w257_168, w257_169, w257_170, w257_171, w257_174, w257_175, w257_176, w257_177, Ko_n, Ko_v, vX_i, vX_r, vX_l, vX_j, reduceIte, upA_upA, not_true, Int.reduceEq, not_false_eq_true]
              exact deed _ _ (lcg (lcg (lcg s))) _ _ (frU _) (kU _) (tU _) (sU _) (by omega) hdw
          · have v0 := f0 (us (lcg (lcg s)) 16)
            have v1 := f1 (us (lcg (lcg s)) 16)
            have hdw : dwD (K' 3) (K' 1 * K' 2) s = (1000 + us (lcg (lcg s)) 16 % (K' 1 * K' 2), lcg (lcg s)) := by unfold dwD; rw [if_neg (by omega), if_neg (by omega), if_pos e]
            rw [e]
            simp (disch := (first | assumption | omega | exact Nat.le_of_ble_eq_true rfl | rfl)) only [w257_53, w257_54, w257_57, w257_58, w257_59, w257_62, w257_64, w257_66, w257_67, w257_70, w257_71, w257_74, w257_75, w257_76, w257_79, w257_82, w257_83, w257_85, w257_87, w257_88, w257_91, w257_93, w257_94, w257_95, w257_98, w257_99, w257_100, w257_103, w257_104, w257_106, w257_108, w257_111, w257_112, w257_113, w257_116, w257_119, w257_121, w257_123, w257_124, w257_127, w257_129, w257_131, w257_132, w257_135, w257_137, w257_138, w257_141, w257_144, w257_146, w257_147, w257_150, w257_153, w257_155, w257_156, w257_158, w257_160, w257_161, w257_164, w257_166, w257_168, w257_169, w257_170, w257_171, w257_174, w257_175, w257_176, w257_177, Ko_n, Ko_v, vX_i, vX_r, vX_l, vX_j, reduceIte, Int.reduceEq, not_false_eq_true, show ¬ (2 : Int) ≤ 0 by omega]
            rw [c210 (kU _)]
            simp (disch := (first | assumption | omega | exact Nat.le_of_ble_eq_true rfl | rfl)) only [w257_53, w257_54, w257_57, w257_58, w257_59, w257_62, w257_64, w257_66, w257_67, w257_70, w257_71, w257_74, w257_75, w257_76, w257_79, w257_82, w257_83, w257_85, w257_87, w257_88, w257_91, w257_93, w257_94, w257_95, w257_98, w257_99, w257_100, w257_103, w257_104, w257_106, w257_108, w257_111, w257_112, w257_113, w257_116, w257_119, w257_121, w257_123, w257_124, w257_127, w257_129, w257_131, w257_132, w257_135, w257_137, w257_138, w257_141, w257_144, w257_146, w257_147, w257_150, w257_153, w257_155, w257_156, w257_158, w257_160, w257_161, w257_164, w257_166, w257_168, w257_169, w257_170, w257_171, w257_174, w257_175, w257_176, w257_177, Ko_n, Ko_v, vX_i, vX_r, vX_l, vX_j, reduceIte]
            rw [c256 (by omega) (by omega), sU]
            simp (disch := (first | assumption | omega | exact Nat.le_of_ble_eq_true rfl | rfl)) only [w257_53, w257_54, w257_57, w257_58, w257_59, w257_62, w257_64, w257_66, w257_67, w257_70, w257_71, w257_74, w257_75, w257_76, w257_79, w257_82, w257_83, w257_85, w257_87, w257_88, w257_91, w257_93, w257_94, w257_95, w257_98, w257_99, w257_100, w257_103, w257_104, w257_106, w257_108, w257_111, w257_112, w257_113, w257_116, w257_119, w257_121, w257_123, w257_124, w257_127, w257_129, w257_131, w257_132, w257_135, w257_137, w257_138, w257_141, w257_144, w257_146, w257_147, w257_150, w257_153, w257_155, w257_156, w257_158, w257_160, w257_161, w257_164, w257_166, w257_168, w257_169, w257_170, w257_171, w257_174, w257_175, w257_176, w257_177, Ko_n, Ko_v, vX_i, vX_r, vX_l, vX_j, reduceIte, upA_upA, not_true, Int.reduceEq, not_false_eq_true]
            exact deed _ _ (lcg (lcg s)) _ _ (frU _) (kU _) (tU _) (sU _) (by omega) hdw
          · have v0 := f0 (us (lcg (lcg s)) 16)
            have v1 := f1 (us (lcg (lcg s)) 16)
            have t0 := Int.emod_nonneg (us (lcg (lcg (lcg s))) 16) (show (3 : Int) ≠ 0 by omega)
            have t1 := Int.emod_lt_of_pos (us (lcg (lcg (lcg s))) 16) (show (0 : Int) < 3 by omega)
            have hdw : dwD (K' 3) (K' 1 * K' 2) s = (2000 + us (lcg (lcg s)) 16 % (K' 1 * K' 2) + 100 * (1 + us (lcg (lcg (lcg s))) 16 % 3), lcg (lcg (lcg s))) := by
              unfold dwD
              rw [if_neg (by omega), if_neg (by omega), if_neg (by omega)]
              congr 1
              omega
            rw [e]
            simp (disch := (first | assumption | omega | exact Nat.le_of_ble_eq_true rfl | rfl)) only [w257_53, w257_54, w257_57, w257_58, w257_59, w257_62, w257_64, w257_66, w257_67, w257_70, w257_71, w257_74, w257_75, w257_76, w257_79, w257_82, w257_83, w257_85, w257_87, w257_88, w257_91, w257_93, w257_94, w257_95, w257_98, w257_99, w257_100, w257_103, w257_104, w257_106, w257_108, w257_111, w257_112, w257_113, w257_116, w257_119, w257_121, w257_123, w257_124, w257_127, w257_129, w257_131, w257_132, w257_135, w257_137, w257_138, w257_141, w257_144, w257_146, w257_147, w257_150, w257_153, w257_155, w257_156, w257_158, w257_160, w257_161, w257_164, w257_166, w257_168, w257_169, w257_170, w257_171, w257_174, w257_175, w257_176, w257_177, Ko_n, Ko_v, vX_i, vX_r, vX_l, vX_j, reduceIte, Int.reduceEq, not_false_eq_true, show ¬ (3 : Int) ≤ 0 by omega]
            rw [c210 (kU _)]
            simp (disch := (first | assumption | omega | exact Nat.le_of_ble_eq_true rfl | rfl)) only [w257_53, w257_54, w257_57, w257_58, w257_59, w257_62, w257_64, w257_66, w257_67, w257_70, w257_71, w257_74, w257_75, w257_76, w257_79, w257_82, w257_83, w257_85, w257_87, w257_88, w257_91, w257_93, w257_94, w257_95, w257_98, w257_99, w257_100, w257_103, w257_104, w257_106, w257_108, w257_111, w257_112, w257_113, w257_116, w257_119, w257_121, w257_123, w257_124, w257_127, w257_129, w257_131, w257_132, w257_135, w257_137, w257_138, w257_141, w257_144, w257_146, w257_147, w257_150, w257_153, w257_155, w257_156, w257_158, w257_160, w257_161, w257_164, w257_166, w257_168, w257_169, w257_170, w257_171, w257_174, w257_175, w257_176, w257_177, Ko_n, Ko_v, vX_i, vX_r, vX_l, vX_j, reduceIte]
            rw [c256 (by omega) (by omega), sU]
            simp (disch := (first | assumption | omega | exact Nat.le_of_ble_eq_true rfl | rfl)) only [w257_53, w257_54, w257_57, w257_58, w257_59, w257_62, w257_64, w257_66, w257_67, w257_70, w257_71, w257_74, w257_75, w257_76, w257_79, w257_82, w257_83, w257_85, w257_87, w257_88, w257_91, w257_93, w257_94, w257_95, w257_98, w257_99, w257_100, w257_103, w257_104, w257_106, w257_108, w257_111, w257_112, w257_113, w257_116, w257_119, w257_121, w257_123, w257_124, w257_127, w257_129, w257_131, w257_132, w257_135, w257_137, w257_138, w257_141, w257_144, w257_146, w257_147, w257_150, w257_153, w257_155, w257_156, w257_158, w257_160, w257_161, w257_164, w257_166, w257_168, w257_169, w257_170, w257_171, w257_174, w257_175, w257_176, w257_177, Ko_n, Ko_v, vX_i, vX_r, vX_l, vX_j, reduceIte, upA_upA, not_true, Int.reduceEq, not_false_eq_true]
            rw [c256 (by omega) (by omega), sU]
            simp (disch := (first | assumption | omega | exact Nat.le_of_ble_eq_true rfl | rfl)) only [w257_53, w257_54, w257_57, w257_58, w257_59, w257_62, w257_64, w257_66, w257_67, w257_70, w257_71, w257_74, w257_75, w257_76, w257_79, w257_82, w257_83, w257_85, w257_87, w257_88, w257_91, w257_93, w257_94, w257_95, w257_98, w257_99, w257_100, w257_103, w257_104, w257_106, w257_108, w257_111, w257_112, w257_113, w257_116, w257_119, w257_121, w257_123, w257_124, w257_127, w257_129, w257_131, w257_132, w257_135, w257_137, w257_138, w257_141, w257_144, w257_146, w257_147, w257_150, w257_153, w257_155, w257_156, w257_158, w257_160, w257_161, w257_164, w257_166, w257_168, w257_169, w257_170, w257_171, w257_174, w257_175, w257_176, w257_177, Ko_n, Ko_v, vX_i, vX_r, vX_l, vX_j, reduceIte, upA_upA]
            exact deed _ _ (lcg (lcg (lcg s))) _ _ (frU _) (kU _) (tU _) (sU _) (by omega) hdw
      exact loop tm.toNat 0 _ K B sd 0 _ _ _ (by omega) (fT_u (fT_u fT_r (by omega)) (by omega)) (by rw [upA_t (by omega), upA_t (by omega)]; exact hK) (by rw [upA_t (by omega), upA_s]) (by rw [upA_s]) hv hl hr rfl (by omega) (by omega) rfl
  · rw [if_neg a]
    simp (disch := (first | assumption | omega | exact Nat.le_of_ble_eq_true rfl | rfl)) only [w257_0, w257_1, w257_2, w257_3, w257_4, w257_7, w257_10, w257_13, w257_14, w257_17, w257_18, w257_21, w257_24, w257_25, w257_28, w257_29, w257_32, w257_33, w257_36, w257_39, w257_40, w257_41, w257_42, w257_43, w257_46, w257_47, w257_48, w257_49, w257_53, w257_54, w257_57, w257_58, w257_59, w257_62, w257_64, w257_66, w257_67, w257_70, w257_71, w257_74, w257_75, w257_76, w257_79, w257_82, w257_83, w257_85, w257_87, w257_88, w257_91, w257_93, w257_94, w257_95, w257_98, w257_99, w257_100, w257_103, w257_104, w257_106, w257_108, w257_111, w257_112, w257_113, w257_116, w257_119, w257_121, w257_123, w257_124, w257_127, w257_129, w257_131, w257_132, w257_135, w257_137, w257_138, w257_141, w257_144, w257_146, w257_147, w257_150, w257_153, w257_155, w257_156, w257_158, w257_160, w257_161, w257_164, w257_166, w257_168, w257_169, w257_170, w257_171, w257_174, w257_175, w257_176, w257_177, w257_179, w257_180, w257_182, w257_183, w257_186, w257_189, w257_192, w257_193, w257_196, w257_197, w257_199, w257_202, w257_205, w257_208, w257_211, w257_212, Ko_n, Ko_v, vX_i, vX_r, vX_l, vX_j, reduceIte, not_true, upA_s, show ¬ (1 : Int) ≤ 0 by omega]
    exact hQ1 1 (Or.inl ⟨a, rfl⟩) _ (fT_u fT_r (by omega)) (by rw [upA_t (by omega)]; exact hK) (by rw [upA_s])
theorem c258 {d : Nat} {k w z B : Int} {K : Int → Int} {T : Tt} {σ : St} {Q : vmO → vmH → Prop} (hK : σ 1200 382 = K) (hv : kV K B) (hB : B < 900000000) (x0 : -2147483648 ≤ w) (x1 : w < 2147483648) (y0 : -2147483648 ≤ z) (y1 : z < 2147483648)
    (hQ1 : ¬ wzI K w z → ∀ τ, fT σ τ → τ 1200 382 = K → τ 1204 382 0 = 1 → Q (.inl (some (.int (i32 0)))) (E T τ))
    (hQ2 : wzI K w z → ∀ τ, fT σ τ → τ 1200 382 = K → τ 1204 382 0 = 0 → Q (.inl (some (.int (i32 (orN (dK K w z)))))) (E T τ)) : Ca (d + 7) k 258 [.ref 382, .int (i32 w), .int (i32 z)] (E T σ) Q := by
  have h0 := ob_md
  rw [n258 _ _ _ _ _ _ _ _ h0]
  simp (disch := (first | assumption | omega | exact Nat.le_of_ble_eq_true rfl | rfl)) only [w258_0, w258_1, w258_2, w258_3, w258_6, w258_9, w258_10, w258_13, w258_14, w258_15, w258_16, w258_19, Ko_n, Ko_v, vX_i, vX_r, vX_l, vX_j, reduceIte]
  refine c237 hK hv x0 x1 y0 y1 (fun hi => ?_) (fun hi => ?_)
  · have hK1 : (upA σ 1204 382 fun _ => 0) 1200 382 = K := by rw [upA_t (by omega)]; exact hK
    simp (disch := (first | assumption | omega | exact Nat.le_of_ble_eq_true rfl | rfl)) only [w258_0, w258_1, w258_2, w258_3, w258_6, w258_9, w258_10, w258_13, w258_14, w258_15, w258_16, w258_19, Ko_n, Ko_v, vX_i, vX_r, vX_l, vX_j, reduceIte]
    refine c236 hK1 hv hB hi.1.1 hi.1.2 hi.2.1 hi.2.2 fun τ h1 h2 _ => ?_
    have fr := fT_q h1
    simp (disch := (first | assumption | omega | exact Nat.le_of_ble_eq_true rfl | rfl)) only [w258_0, w258_1, w258_2, w258_3, w258_6, w258_9, w258_10, w258_13, w258_14, w258_15, w258_16, w258_19, Ko_n, Ko_v, vX_i, vX_r, vX_l, vX_j, reduceIte]
    exact hQ2 hi τ fr.1 h2 fr.2
  · simp (disch := (first | assumption | omega | exact Nat.le_of_ble_eq_true rfl | rfl)) only [w258_0, w258_1, w258_2, w258_3, w258_6, w258_9, w258_10, w258_13, w258_14, w258_15, w258_16, w258_19, Ko_n, Ko_v, vX_i, vX_r, vX_l, vX_j, reduceIte, Int.reduceEq]
    exact hQ1 hi _ (fT_u fT_r (by omega)) (by rw [upA_t (by omega)]; exact hK) (by rw [upA_s])
