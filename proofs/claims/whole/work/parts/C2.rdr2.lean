/-! ===== the class's reader: on to the next token ===== -/
theorem c39r {d : Nat} {k u : Int} {T : Tt} {σ : St} {Q : vmO → vmH → Prop} (h : σ 500 75 0 = 0) : Ca d k 39 [.ref 75, .int (i32 u)] (E T σ) Q = Q (.inl none) (E T (upA (upA σ 500 75 fun _ => u) 501 75 fun _ => σ 507 75 0)) := by
  have h0 := ob_rd
  rw [n39 _ _ _ _ _ _ _ h0]
  simp (disch := (first | assumption | omega | exact Nat.le_of_ble_eq_true rfl | rfl)) only [w39_0, w39_1, w39_4, w39_7, w39_8, w39_9, w39_12, w39_13, w39_14, w39_17, w39_20, Ko_n, Ko_v, vX_i, vX_r, vX_l, vX_j, reduceIte, h, not_true, upA_t]
theorem L40c {d : Nat} {b e n : Int} {f : Int → Int} {T : Tt} {σ : St} {Q : vmO → vmH → Prop} (h5 : σ 505 75 0 = 1) (hF : σ 1100 0 = f) (hf : tpOk f n) (b0 : 0 ≤ b) (e3 : e - b ≤ 3) (en : e ≤ n) (h8 : σ 508 75 0 = e) (h9 : σ 509 75 0 = 2) : ∀ (m j : Nat), b + j + m = e → Wp d M_X5_advance 222 [.ref 75, .int (i32 (b + j))] [] (E T (upA σ 510 75 fun _ => dgv f b j)) Q = Wp d M_X5_advance 265 [.ref 75, .int (i32 e)] [] (E T (upA σ 510 75 fun _ => dgv f b (e - b).toNat)) Q := by
  have h0 := ob_rd
  have hh := ob_hp
  have hn := hf.2
  have h7 : (σ 505 75 0).toNat = A 1100 0 := by rw [h5]; rfl
  intro m
  induction m with
  | zero =>
    intro j hj
    have hje : b + (j : Int) = e := by omega
    rw [w40_222, hje]
    simp (disch := (first | assumption | omega | exact Nat.le_of_ble_eq_true rfl | rfl)) only [w40_223, w40_224, w40_227, w40_230, w40_231, w40_234, w40_235, w40_238, w40_239, w40_241, w40_242, w40_245, w40_246, w40_247, w40_250, w40_251, w40_252, w40_253, w40_255, w40_256, w40_259, w40_262, Ko_n, Ko_v, vX_i, vX_r, vX_l, vX_j, reduceIte, upA_t, h8, Int.le_refl]
    rw [show (e - b).toNat = j by omega]
  | succ m ih =>
    intro j hj
    have ih' := ih (j + 1) (by omega)
    rw [w40_222]
    simp (disch := (first | assumption | omega | exact Nat.le_of_ble_eq_true rfl | rfl)) only [w40_223, w40_224, w40_227, w40_230, w40_231, w40_234, w40_235, w40_238, w40_239, w40_241, w40_242, w40_245, w40_246, w40_247, w40_250, w40_251, w40_252, w40_253, w40_255, w40_256, w40_259, w40_262, Ko_n, Ko_v, vX_i, vX_r, vX_l, vX_j, reduceIte, upA_t, upA_s, upA_upA, h7, hF, h8, h9, show ¬ e ≤ b + (j : Int) by omega, not_true]
    rw [show b + ((j + 1 : Nat) : Int) = b + (j : Int) + 1 by omega] at ih'
    exact ih'
theorem c40g {d : Nat} {k n : Int} {f : Int → Int} {T : Tt} {σ : St} {s : Ps} {Q : vmO → vmH → Prop} (a1 : σ 505 75 0 = 1) (a2 : σ 506 75 0 = n) (a3 : σ 1100 0 = f) (a6 : σ 500 75 0 = 0) (a7 : σ 501 75 0 = -1) (g2 : σ 508 75 0 = pH s) (hf : tpOk f n) (hb0 : pB s = 0) (p0 : 0 ≤ pH s) (p1 : pH s ≤ n) (hQ : ∀ τ, Rc f n τ (rdOn f n s) → fR σ τ → Q (.inl none) (E T τ)) : Ca (d + 4) k 40 [.ref 75] (E T σ) Q := by
  have h0 := ob_rd
  have hh := ob_hp
  have hn := hf.2
  have h7 : (σ 505 75 0).toNat = A 1100 0 := by rw [a1]; rfl
  rw [n40 _ _ _ _ _ _ h0]
  simp (disch := (first | assumption | omega | exact Nat.le_of_ble_eq_true rfl | rfl)) only [w40_0, w40_1, w40_2, w40_5, Ko_n, Ko_v, vX_i, vX_r, vX_l, vX_j, reduceIte, g2]
  rw [L40a (x := 0) a1 a2 a3 hf 900 _ (by omega) (by omega) (by omega)]
  have hk := skp_in (f := f) (n := n) 900 (pH s)
  have hrd : rdOn f n s = (pB s, pP s, skp f n 900 (pH s), (tok f n (skp f n 900 (pH s)) (pV s)).1, (tok f n (skp f n 900 (pH s)) (pV s)).2.1, (tok f n (skp f n 900 (pH s)) (pV s)).2.2, pD s, pK s) := rfl
  rw [hrd] at hQ
  generalize skp f n 900 (pH s) = b at *
  have b1 := hk.2 p1
  unfold tok at hQ
  rw [hb0] at hQ
  by_cases e1 : n ≤ b
  · rw [if_pos e1] at hQ
    simp (disch := (first | assumption | omega | exact Nat.le_of_ble_eq_true rfl | rfl)) only [w40_0, w40_1, w40_2, w40_5, w40_9, w40_12, w40_13, w40_16, w40_19, w40_20, w40_23, w40_24, w40_27, w40_28, w40_30, w40_33, w40_34, w40_37, w40_38, w40_41, w40_42, w40_44, w40_47, w40_48, w40_49, w40_52, w40_53, w40_54, w40_57, w40_60, w40_61, w40_62, w40_65, w40_66, w40_67, w40_70, w40_71, w40_72, w40_75, w40_76, w40_79, w40_82, w40_83, w40_86, w40_87, w40_90, w40_91, w40_94, w40_95, w40_98, w40_99, w40_102, w40_103, w40_106, w40_107, w40_108, w40_111, w40_112, w40_113, w40_116, w40_119, w40_122, w40_123, w40_126, w40_128, w40_131, w40_132, w40_135, w40_137, w40_140, w40_141, w40_142, w40_145, w40_146, w40_147, w40_149, w40_151, w40_154, w40_157, w40_160, w40_161, w40_164, w40_166, w40_169, w40_170, w40_173, w40_175, w40_178, w40_179, w40_180, w40_182, w40_184, w40_187, w40_190, w40_191, w40_192, w40_195, w40_196, w40_199, w40_200, w40_201, w40_204, w40_205, w40_208, w40_209, w40_212, w40_213, w40_214, w40_217, w40_218, w40_221, w40_223, w40_224, w40_227, w40_230, w40_231, w40_234, w40_235, w40_238, w40_239, w40_241, w40_242, w40_245, w40_246, w40_247, w40_250, w40_251, w40_252, w40_253, w40_255, w40_256, w40_259, w40_262, w40_265, w40_268, w40_269, w40_271, w40_272, w40_275, w40_276, w40_279, w40_282, w40_283, w40_286, w40_287, w40_290, w40_291, w40_294, w40_295, w40_298, w40_299, w40_300, w40_303, Ko_n, Ko_v, vX_i, vX_r, vX_l, vX_j, reduceIte, upA_s, upA_t, a2, e1, not_true, not_false_eq_true, Int.reduceEq, Int.reduceNeg]
    refine hQ _ ⟨?_, ?_, ?_, ?_, ?_, ?_, ?_, fun _ => ⟨?_, ?_, ?_, ?_, ?_⟩⟩ (fR_u (fR_u (fR_u (fR_u (fR_u fR_r)))))
    all_goals simp (disch := omega) only [upA_s, upA_t]
    · exact a1
    · exact a2
    · exact a3
    · omega
    · omega
    · exact a6
    · exact a7
    · rfl
    · rfl
    · rfl
    · intro z; cases z
    · intro z; cases z
  · rw [if_neg e1] at hQ
    have hfb := hf.1 b (by omega) (by omega)
    by_cases e2 : 97 ≤ f b ∧ f b ≤ 122
    · rw [if_pos e2] at hQ
      simp (disch := (first | assumption | omega | exact Nat.le_of_ble_eq_true rfl | rfl)) only [w40_0, w40_1, w40_2, w40_5, w40_9, w40_12, w40_13, w40_16, w40_19, w40_20, w40_23, w40_24, w40_27, w40_28, w40_30, w40_33, w40_34, w40_37, w40_38, w40_41, w40_42, w40_44, w40_47, w40_48, w40_49, w40_52, w40_53, w40_54, w40_57, w40_60, w40_61, w40_62, w40_65, w40_66, w40_67, w40_70, w40_71, w40_72, w40_75, w40_76, w40_79, w40_82, w40_83, w40_86, w40_87, w40_90, w40_91, w40_94, w40_95, w40_98, w40_99, w40_102, w40_103, w40_106, w40_107, w40_108, w40_111, w40_112, w40_113, w40_116, w40_119, w40_122, w40_123, w40_126, w40_128, w40_131, w40_132, w40_135, w40_137, w40_140, w40_141, w40_142, w40_145, w40_146, w40_147, w40_149, w40_151, w40_154, w40_157, w40_160, w40_161, w40_164, w40_166, w40_169, w40_170, w40_173, w40_175, w40_178, w40_179, w40_180, w40_182, w40_184, w40_187, w40_190, w40_191, w40_192, w40_195, w40_196, w40_199, w40_200, w40_201, w40_204, w40_205, w40_208, w40_209, w40_212, w40_213, w40_214, w40_217, w40_218, w40_221, w40_223, w40_224, w40_227, w40_230, w40_231, w40_234, w40_235, w40_238, w40_239, w40_241, w40_242, w40_245, w40_246, w40_247, w40_250, w40_251, w40_252, w40_253, w40_255, w40_256, w40_259, w40_262, w40_265, w40_268, w40_269, w40_271, w40_272, w40_275, w40_276, w40_279, w40_282, w40_283, w40_286, w40_287, w40_290, w40_291, w40_294, w40_295, w40_298, w40_299, w40_300, w40_303, Ko_n, Ko_v, vX_i, vX_r, vX_l, vX_j, reduceIte, upA_s, upA_t, a2, a3, h7, e1, show ¬ f b = -1 by omega, show ¬ f b < 97 by omega, show ¬ 122 < f b by omega, not_true, not_false_eq_true]
      rw [c41 (by simp (disch := omega) only [upA_s, upA_t]; exact a1) (by simp (disch := omega) only [upA_s, upA_t]; exact a2) (by simp (disch := omega) only [upA_s, upA_t]; exact a3) hf (by simp (disch := omega) only [upA_s, upA_t]; omega) (by simp (disch := omega) only [upA_s, upA_t]; omega) (by omega) (by omega) (by omega) (by omega)]
      simp (disch := (first | assumption | omega | exact Nat.le_of_ble_eq_true rfl | rfl)) only [w40_0, w40_1, w40_2, w40_5, w40_9, w40_12, w40_13, w40_16, w40_19, w40_20, w40_23, w40_24, w40_27, w40_28, w40_30, w40_33, w40_34, w40_37, w40_38, w40_41, w40_42, w40_44, w40_47, w40_48, w40_49, w40_52, w40_53, w40_54, w40_57, w40_60, w40_61, w40_62, w40_65, w40_66, w40_67, w40_70, w40_71, w40_72, w40_75, w40_76, w40_79, w40_82, w40_83, w40_86, w40_87, w40_90, w40_91, w40_94, w40_95, w40_98, w40_99, w40_102, w40_103, w40_106, w40_107, w40_108, w40_111, w40_112, w40_113, w40_116, w40_119, w40_122, w40_123, w40_126, w40_128, w40_131, w40_132, w40_135, w40_137, w40_140, w40_141, w40_142, w40_145, w40_146, w40_147, w40_149, w40_151, w40_154, w40_157, w40_160, w40_161, w40_164, w40_166, w40_169, w40_170, w40_173, w40_175, w40_178, w40_179, w40_180, w40_182, w40_184, w40_187, w40_190, w40_191, w40_192, w40_195, w40_196, w40_199, w40_200, w40_201, w40_204, w40_205, w40_208, w40_209, w40_212, w40_213, w40_214, w40_217, w40_218, w40_221, w40_223, w40_224, w40_227, w40_230, w40_231, w40_234, w40_235, w40_238, w40_239, w40_241, w40_242, w40_245, w40_246, w40_247, w40_250, w40_251, w40_252, w40_253, w40_255, w40_256, w40_259, w40_262, w40_265, w40_268, w40_269, w40_271, w40_272, w40_275, w40_276, w40_279, w40_282, w40_283, w40_286, w40_287, w40_290, w40_291, w40_294, w40_295, w40_298, w40_299, w40_300, w40_303, Ko_n, Ko_v, vX_i, vX_r, vX_l, vX_j, reduceIte, upA_s, upA_t, not_false_eq_true, Int.reduceEq]
      refine hQ _ ⟨?_, ?_, ?_, ?_, ?_, ?_, ?_, fun _ => ⟨?_, ?_, ?_, ?_, ?_⟩⟩ (fR_u (fR_u (fR_u (fR_u (fR_u fR_r)))))
      all_goals simp (disch := omega) only [upA_s, upA_t]
      · exact a1
      · exact a2
      · exact a3
      · omega
      · omega
      · exact a6
      · exact a7
      · rfl
      · rfl
      · rfl
      · intro z; cases z
      · intro z; cases z
    · rw [if_neg e2] at hQ
      have g1' : (if f b < 97 then True else 122 < f b) := by
        split
        · trivial
        · omega
      by_cases e3 : 48 ≤ f b ∧ f b ≤ 57
      · rw [if_pos e3] at hQ
        have hE := (ero_in (f := f) (n := n) (a := 48) (b := 57) 900 b)
        have hE2 := hE.2 b1
        simp (disch := (first | assumption | omega | exact Nat.le_of_ble_eq_true rfl | rfl)) only [w40_0, w40_1, w40_2, w40_5, w40_9, w40_12, w40_13, w40_16, w40_19, w40_20, w40_23, w40_24, w40_27, w40_28, w40_30, w40_33, w40_34, w40_37, w40_38, w40_41, w40_42, w40_44, w40_47, w40_48, w40_49, w40_52, w40_53, w40_54, w40_57, w40_60, w40_61, w40_62, w40_65, w40_66, w40_67, w40_70, w40_71, w40_72, w40_75, w40_76, w40_79, w40_82, w40_83, w40_86, w40_87, w40_90, w40_91, w40_94, w40_95, w40_98, w40_99, w40_102, w40_103, w40_106, w40_107, w40_108, w40_111, w40_112, w40_113, w40_116, w40_119, w40_122, w40_123, w40_126, w40_128, w40_131, w40_132, w40_135, w40_137, w40_140, w40_141, w40_142, w40_145, w40_146, w40_147, w40_149, w40_151, w40_154, w40_157, w40_160, w40_161, w40_164, w40_166, w40_169, w40_170, w40_173, w40_175, w40_178, w40_179, w40_180, w40_182, w40_184, w40_187, w40_190, w40_191, w40_192, w40_195, w40_196, w40_199, w40_200, w40_201, w40_204, w40_205, w40_208, w40_209, w40_212, w40_213, w40_214, w40_217, w40_218, w40_221, w40_223, w40_224, w40_227, w40_230, w40_231, w40_234, w40_235, w40_238, w40_239, w40_241, w40_242, w40_245, w40_246, w40_247, w40_250, w40_251, w40_252, w40_253, w40_255, w40_256, w40_259, w40_262, w40_265, w40_268, w40_269, w40_271, w40_272, w40_275, w40_276, w40_279, w40_282, w40_283, w40_286, w40_287, w40_290, w40_291, w40_294, w40_295, w40_298, w40_299, w40_300, w40_303, Ko_n, Ko_v, vX_i, vX_r, vX_l, vX_j, reduceIte, upA_s, upA_t, a2, a3, h7, e1, show ¬ f b = -1 by omega, show f b < 97 by omega, show ¬ f b < 48 by omega, show ¬ 57 < f b by omega, not_true, not_false_eq_true]
        rw [c41 (by simp (disch := omega) only [upA_s, upA_t]; exact a1) (by simp (disch := omega) only [upA_s, upA_t]; exact a2) (by simp (disch := omega) only [upA_s, upA_t]; exact a3) hf (by simp (disch := omega) only [upA_s, upA_t]; omega) (by simp (disch := omega) only [upA_s, upA_t]; omega) (by omega) (by omega) (by omega) (by omega)]
        rw [show (upA (upA (upA σ 507 75 fun x => b) 508 75 fun x => b + 1) 510 75 fun x => f b) 507 75 0 = b by simp (disch := omega) only [upA_s, upA_t]]
        have hdg := fun k (hk : k ≤ 3) (hk2 : b + (k : Nat) ≤ ero f n 48 57 900 b) => dgv_in (f := f) (p := b) k hk (fun j hj => ero_dg (n := n) 900 b (b + j) (by omega) (by omega))
        have hE3 := ero_1 (n := n) (by omega) e3
        generalize ero f n 48 57 900 b = e at *
        by_cases h4 : e - b ≤ 3
        · rw [if_pos h4, show min 3 (e - b) = e - b by omega] at hQ
          have hd3 := hdg (e - b).toNat (by omega) (by omega)
          have hd4 : (10 : Int) ^ (e - b).toNat ≤ 1000 := by
            have : (e - b).toNat = 1 ∨ (e - b).toNat = 2 ∨ (e - b).toNat = 3 := by omega
            rcases this with z | z | z <;> rw [z] <;> decide
          simp (disch := (first | assumption | omega | exact Nat.le_of_ble_eq_true rfl | rfl)) only [w40_170, w40_173, w40_175, w40_178, w40_179, w40_180, w40_182, w40_184, w40_187, w40_190, w40_191, w40_192, w40_195, w40_196, w40_199, w40_200, w40_201, w40_204, w40_205, w40_208, w40_209, w40_212, w40_213, w40_214, w40_217, w40_218, w40_221, Ko_n, Ko_v, vX_i, vX_r, vX_l, vX_j, reduceIte, upA_s, upA_t, show ¬ 3 < e - b by omega]
          have l := L40c (d := d + 4) (T := T) (Q := Q) (σ := upA (upA (upA (upA (upA σ 507 75 fun x => b) 508 75 fun x => b + 1) 510 75 fun x => f b) 508 75 fun x => e) 509 75 fun x => 2) (f := f) (n := n) (b := b) (e := e) (by simp (disch := omega) only [upA_s, upA_t]; exact a1) (by simp (disch := omega) only [upA_s, upA_t]; exact a3) hf (by omega) h4 (by omega) (by simp (disch := omega) only [upA_s, upA_t]) (by simp (disch := omega) only [upA_s, upA_t]) (e - b).toNat 0 (by omega)
          rw [show b + ((0 : Nat) : Int) = b by omega, show dgv f b 0 = 0 from rfl] at l
          rw [l]
          simp (disch := (first | assumption | omega | exact Nat.le_of_ble_eq_true rfl | rfl)) only [w40_0, w40_1, w40_2, w40_5, w40_9, w40_12, w40_13, w40_16, w40_19, w40_20, w40_23, w40_24, w40_27, w40_28, w40_30, w40_33, w40_34, w40_37, w40_38, w40_41, w40_42, w40_44, w40_47, w40_48, w40_49, w40_52, w40_53, w40_54, w40_57, w40_60, w40_61, w40_62, w40_65, w40_66, w40_67, w40_70, w40_71, w40_72, w40_75, w40_76, w40_79, w40_82, w40_83, w40_86, w40_87, w40_90, w40_91, w40_94, w40_95, w40_98, w40_99, w40_102, w40_103, w40_106, w40_107, w40_108, w40_111, w40_112, w40_113, w40_116, w40_119, w40_122, w40_123, w40_126, w40_128, w40_131, w40_132, w40_135, w40_137, w40_140, w40_141, w40_142, w40_145, w40_146, w40_147, w40_149, w40_151, w40_154, w40_157, w40_160, w40_161, w40_164, w40_166, w40_169, w40_170, w40_173, w40_175, w40_178, w40_179, w40_180, w40_182, w40_184, w40_187, w40_190, w40_191, w40_192, w40_195, w40_196, w40_199, w40_200, w40_201, w40_204, w40_205, w40_208, w40_209, w40_212, w40_213, w40_214, w40_217, w40_218, w40_221, w40_223, w40_224, w40_227, w40_230, w40_231, w40_234, w40_235, w40_238, w40_239, w40_241, w40_242, w40_245, w40_246, w40_247, w40_250, w40_251, w40_252, w40_253, w40_255, w40_256, w40_259, w40_262, w40_265, w40_268, w40_269, w40_271, w40_272, w40_275, w40_276, w40_279, w40_282, w40_283, w40_286, w40_287, w40_290, w40_291, w40_294, w40_295, w40_298, w40_299, w40_300, w40_303, Ko_n, Ko_v, vX_i, vX_r, vX_l, vX_j, reduceIte, upA_s, upA_t, not_false_eq_true, Int.reduceEq]
          refine hQ _ ⟨?_, ?_, ?_, ?_, ?_, ?_, ?_, fun _ => ⟨?_, ?_, ?_, ?_, ?_⟩⟩ (fR_u (fR_u (fR_u (fR_u (fR_u (fR_u fR_r))))))
          all_goals simp (disch := omega) only [upA_s, upA_t]
          · exact a1
          · exact a2
          · exact a3
          · omega
          · omega
          · exact a6
          · exact a7
          · rfl
          · rfl
          · rfl
          · intro z; rfl
          · intro z; cases z
        · rw [if_neg h4] at hQ
          simp (disch := (first | assumption | omega | exact Nat.le_of_ble_eq_true rfl | rfl)) only [w40_170, w40_173, w40_175, w40_178, w40_179, w40_180, w40_182, w40_184, w40_187, w40_190, w40_191, w40_192, w40_195, w40_196, w40_199, w40_200, w40_201, w40_204, w40_205, w40_208, w40_209, w40_212, w40_213, w40_214, w40_217, w40_218, w40_221, Ko_n, Ko_v, vX_i, vX_r, vX_l, vX_j, reduceIte, upA_s, upA_t, show 3 < e - b by omega]
          rw [w40_222]
          simp (disch := (first | assumption | omega | exact Nat.le_of_ble_eq_true rfl | rfl)) only [w40_223, w40_224, w40_227, w40_230, w40_231, w40_234, w40_235, w40_238, w40_239, w40_241, w40_242, w40_245, w40_246, w40_247, w40_250, w40_251, w40_252, w40_253, w40_255, w40_256, w40_259, w40_262, w40_265, w40_268, w40_269, w40_271, w40_272, w40_275, w40_276, w40_279, w40_282, w40_283, w40_286, w40_287, w40_290, w40_291, w40_294, w40_295, w40_298, w40_299, w40_300, w40_303, Ko_n, Ko_v, vX_i, vX_r, vX_l, vX_j, reduceIte, upA_s, upA_t, show ¬ e ≤ b by omega, not_false_eq_true, not_true, Int.reduceEq]
          rw [c39r (by simp (disch := omega) only [upA_s, upA_t]; exact a6)]
          simp (disch := (first | assumption | omega | exact Nat.le_of_ble_eq_true rfl | rfl)) only [w40_0, w40_1, w40_2, w40_5, w40_9, w40_12, w40_13, w40_16, w40_19, w40_20, w40_23, w40_24, w40_27, w40_28, w40_30, w40_33, w40_34, w40_37, w40_38, w40_41, w40_42, w40_44, w40_47, w40_48, w40_49, w40_52, w40_53, w40_54, w40_57, w40_60, w40_61, w40_62, w40_65, w40_66, w40_67, w40_70, w40_71, w40_72, w40_75, w40_76, w40_79, w40_82, w40_83, w40_86, w40_87, w40_90, w40_91, w40_94, w40_95, w40_98, w40_99, w40_102, w40_103, w40_106, w40_107, w40_108, w40_111, w40_112, w40_113, w40_116, w40_119, w40_122, w40_123, w40_126, w40_128, w40_131, w40_132, w40_135, w40_137, w40_140, w40_141, w40_142, w40_145, w40_146, w40_147, w40_149, w40_151, w40_154, w40_157, w40_160, w40_161, w40_164, w40_166, w40_169, w40_170, w40_173, w40_175, w40_178, w40_179, w40_180, w40_182, w40_184, w40_187, w40_190, w40_191, w40_192, w40_195, w40_196, w40_199, w40_200, w40_201, w40_204, w40_205, w40_208, w40_209, w40_212, w40_213, w40_214, w40_217, w40_218, w40_221, w40_223, w40_224, w40_227, w40_230, w40_231, w40_234, w40_235, w40_238, w40_239, w40_241, w40_242, w40_245, w40_246, w40_247, w40_250, w40_251, w40_252, w40_253, w40_255, w40_256, w40_259, w40_262, w40_265, w40_268, w40_269, w40_271, w40_272, w40_275, w40_276, w40_279, w40_282, w40_283, w40_286, w40_287, w40_290, w40_291, w40_294, w40_295, w40_298, w40_299, w40_300, w40_303, Ko_n, Ko_v, vX_i, vX_r, vX_l, vX_j, reduceIte]
          refine hQ _ ⟨?_, ?_, ?_, ?_, ?_, ?_, ?_, fun z => ?_⟩ (fR_u (fR_u (fR_u (fR_u (fR_u (fR_u (fR_u (fR_u fR_r))))))))
          all_goals try simp (disch := omega) only [upA_s, upA_t]
          · exact a1
          · exact a2
          · exact a3
          · omega
          · omega
          · rfl
          · rfl
          · cases z
      · rw [if_neg e3] at hQ
        have hix := ixO_s hfb.1 hfb.2
        by_cases z1 : f b < 97
        · by_cases z2 : f b < 48
          · simp (disch := (first | assumption | omega | exact Nat.le_of_ble_eq_true rfl | rfl)) only [w40_0, w40_1, w40_2, w40_5, w40_9, w40_12, w40_13, w40_16, w40_19, w40_20, w40_23, w40_24, w40_27, w40_28, w40_30, w40_33, w40_34, w40_37, w40_38, w40_41, w40_42, w40_44, w40_47, w40_48, w40_49, w40_52, w40_53, w40_54, w40_57, w40_60, w40_61, w40_62, w40_65, w40_66, w40_67, w40_70, w40_71, w40_72, w40_75, w40_76, w40_79, w40_82, w40_83, w40_86, w40_87, w40_90, w40_91, w40_94, w40_95, w40_98, w40_99, w40_102, w40_103, w40_106, w40_107, w40_108, w40_111, w40_112, w40_113, w40_116, w40_119, w40_122, w40_123, w40_126, w40_128, w40_131, w40_132, w40_135, w40_137, w40_140, w40_141, w40_142, w40_145, w40_146, w40_147, w40_149, w40_151, w40_154, w40_157, w40_160, w40_161, w40_164, w40_166, w40_169, w40_170, w40_173, w40_175, w40_178, w40_179, w40_180, w40_182, w40_184, w40_187, w40_190, w40_191, w40_192, w40_195, w40_196, w40_199, w40_200, w40_201, w40_204, w40_205, w40_208, w40_209, w40_212, w40_213, w40_214, w40_217, w40_218, w40_221, w40_223, w40_224, w40_227, w40_230, w40_231, w40_234, w40_235, w40_238, w40_239, w40_241, w40_242, w40_245, w40_246, w40_247, w40_250, w40_251, w40_252, w40_253, w40_255, w40_256, w40_259, w40_262, w40_265, w40_268, w40_269, w40_271, w40_272, w40_275, w40_276, w40_279, w40_282, w40_283, w40_286, w40_287, w40_290, w40_291, w40_294, w40_295, w40_298, w40_299, w40_300, w40_303, Ko_n, Ko_v, vX_i, vX_r, vX_l, vX_j, reduceIte, upA_s, upA_t, a2, a3, h7, e1, show ¬ f b = -1 by omega, z1, z2, not_true, not_false_eq_true]
            rw [c310 hfb.1 hfb.2]
            cases hz : sgB (f b) with
            | true =>
              rw [hz, if_pos rfl] at hQ
              have hx : ¬ ixO (i32 (f b)).toInt8.toInt 11 0 < 0 := fun w => by rw [hix.1.mp w] at hz; cases hz
              simp (disch := (first | assumption | omega | exact Nat.le_of_ble_eq_true rfl | rfl)) only [w40_0, w40_1, w40_2, w40_5, w40_9, w40_12, w40_13, w40_16, w40_19, w40_20, w40_23, w40_24, w40_27, w40_28, w40_30, w40_33, w40_34, w40_37, w40_38, w40_41, w40_42, w40_44, w40_47, w40_48, w40_49, w40_52, w40_53, w40_54, w40_57, w40_60, w40_61, w40_62, w40_65, w40_66, w40_67, w40_70, w40_71, w40_72, w40_75, w40_76, w40_79, w40_82, w40_83, w40_86, w40_87, w40_90, w40_91, w40_94, w40_95, w40_98, w40_99, w40_102, w40_103, w40_106, w40_107, w40_108, w40_111, w40_112, w40_113, w40_116, w40_119, w40_122, w40_123, w40_126, w40_128, w40_131, w40_132, w40_135, w40_137, w40_140, w40_141, w40_142, w40_145, w40_146, w40_147, w40_149, w40_151, w40_154, w40_157, w40_160, w40_161, w40_164, w40_166, w40_169, w40_170, w40_173, w40_175, w40_178, w40_179, w40_180, w40_182, w40_184, w40_187, w40_190, w40_191, w40_192, w40_195, w40_196, w40_199, w40_200, w40_201, w40_204, w40_205, w40_208, w40_209, w40_212, w40_213, w40_214, w40_217, w40_218, w40_221, w40_223, w40_224, w40_227, w40_230, w40_231, w40_234, w40_235, w40_238, w40_239, w40_241, w40_242, w40_245, w40_246, w40_247, w40_250, w40_251, w40_252, w40_253, w40_255, w40_256, w40_259, w40_262, w40_265, w40_268, w40_269, w40_271, w40_272, w40_275, w40_276, w40_279, w40_282, w40_283, w40_286, w40_287, w40_290, w40_291, w40_294, w40_295, w40_298, w40_299, w40_300, w40_303, Ko_n, Ko_v, vX_i, vX_r, vX_l, vX_j, reduceIte, hx, upA_s, upA_t, not_false_eq_true, Int.reduceEq]
              have hb4 : f b ≠ 0 ∧ f b ≠ 1 ∧ f b ≠ 2 ∧ f b ≠ 3 := by
                have := of_decide_eq_true hz
                omega
              refine hQ _ ⟨?_, ?_, ?_, ?_, ?_, ?_, ?_, fun _ => ⟨?_, ?_, ?_, ?_, ?_⟩⟩ (fR_u (fR_u (fR_u (fR_u fR_r))))
              all_goals simp (disch := omega) only [upA_s, upA_t]
              · exact a1
              · exact a2
              · exact a3
              · omega
              · omega
              · rw [a6]; unfold flt; rw [if_pos (show pB (0, pP s, b, b + 1, f b, pV s, pD s, pK s) = 0 from rfl), if_neg (show ¬ pT (0, pP s, b, b + 1, f b, pV s, pD s, pK s) = 3 from hb4.2.2.2)]
              · rw [a7]; unfold fpl; rw [if_pos (show pB (0, pP s, b, b + 1, f b, pV s, pD s, pK s) = 0 from rfl), if_neg (show ¬ pT (0, pP s, b, b + 1, f b, pV s, pD s, pK s) = 3 from hb4.2.2.2)]
              · rfl
              · rfl
              · unfold soP; rw [if_neg (show ¬ pT (0, pP s, b, b + 1, f b, pV s, pD s, pK s) = 0 from hb4.1), if_neg (show ¬ pT (0, pP s, b, b + 1, f b, pV s, pD s, pK s) = 1 from hb4.2.1), if_neg (show ¬ pT (0, pP s, b, b + 1, f b, pV s, pD s, pK s) = 2 from hb4.2.2.1)]
              · intro z; exact absurd z hb4.2.2.1
              · intro z; rfl
            | false =>
              rw [hz, if_neg (by simp)] at hQ
              have hx := hix.1.mpr hz
              simp (disch := (first | assumption | omega | exact Nat.le_of_ble_eq_true rfl | rfl)) only [w40_0, w40_1, w40_2, w40_5, w40_9, w40_12, w40_13, w40_16, w40_19, w40_20, w40_23, w40_24, w40_27, w40_28, w40_30, w40_33, w40_34, w40_37, w40_38, w40_41, w40_42, w40_44, w40_47, w40_48, w40_49, w40_52, w40_53, w40_54, w40_57, w40_60, w40_61, w40_62, w40_65, w40_66, w40_67, w40_70, w40_71, w40_72, w40_75, w40_76, w40_79, w40_82, w40_83, w40_86, w40_87, w40_90, w40_91, w40_94, w40_95, w40_98, w40_99, w40_102, w40_103, w40_106, w40_107, w40_108, w40_111, w40_112, w40_113, w40_116, w40_119, w40_122, w40_123, w40_126, w40_128, w40_131, w40_132, w40_135, w40_137, w40_140, w40_141, w40_142, w40_145, w40_146, w40_147, w40_149, w40_151, w40_154, w40_157, w40_160, w40_161, w40_164, w40_166, w40_169, w40_170, w40_173, w40_175, w40_178, w40_179, w40_180, w40_182, w40_184, w40_187, w40_190, w40_191, w40_192, w40_195, w40_196, w40_199, w40_200, w40_201, w40_204, w40_205, w40_208, w40_209, w40_212, w40_213, w40_214, w40_217, w40_218, w40_221, w40_223, w40_224, w40_227, w40_230, w40_231, w40_234, w40_235, w40_238, w40_239, w40_241, w40_242, w40_245, w40_246, w40_247, w40_250, w40_251, w40_252, w40_253, w40_255, w40_256, w40_259, w40_262, w40_265, w40_268, w40_269, w40_271, w40_272, w40_275, w40_276, w40_279, w40_282, w40_283, w40_286, w40_287, w40_290, w40_291, w40_294, w40_295, w40_298, w40_299, w40_300, w40_303, Ko_n, Ko_v, vX_i, vX_r, vX_l, vX_j, reduceIte, hx, upA_s, upA_t, not_true]
              rw [c39r (by simp (disch := omega) only [upA_s, upA_t]; exact a6)]
              simp (disch := (first | assumption | omega | exact Nat.le_of_ble_eq_true rfl | rfl)) only [w40_0, w40_1, w40_2, w40_5, w40_9, w40_12, w40_13, w40_16, w40_19, w40_20, w40_23, w40_24, w40_27, w40_28, w40_30, w40_33, w40_34, w40_37, w40_38, w40_41, w40_42, w40_44, w40_47, w40_48, w40_49, w40_52, w40_53, w40_54, w40_57, w40_60, w40_61, w40_62, w40_65, w40_66, w40_67, w40_70, w40_71, w40_72, w40_75, w40_76, w40_79, w40_82, w40_83, w40_86, w40_87, w40_90, w40_91, w40_94, w40_95, w40_98, w40_99, w40_102, w40_103, w40_106, w40_107, w40_108, w40_111, w40_112, w40_113, w40_116, w40_119, w40_122, w40_123, w40_126, w40_128, w40_131, w40_132, w40_135, w40_137, w40_140, w40_141, w40_142, w40_145, w40_146, w40_147, w40_149, w40_151, w40_154, w40_157, w40_160, w40_161, w40_164, w40_166, w40_169, w40_170, w40_173, w40_175, w40_178, w40_179, w40_180, w40_182, w40_184, w40_187, w40_190, w40_191, w40_192, w40_195, w40_196, w40_199, w40_200, w40_201, w40_204, w40_205, w40_208, w40_209, w40_212, w40_213, w40_214, w40_217, w40_218, w40_221, w40_223, w40_224, w40_227, w40_230, w40_231, w40_234, w40_235, w40_238, w40_239, w40_241, w40_242, w40_245, w40_246, w40_247, w40_250, w40_251, w40_252, w40_253, w40_255, w40_256, w40_259, w40_262, w40_265, w40_268, w40_269, w40_271, w40_272, w40_275, w40_276, w40_279, w40_282, w40_283, w40_286, w40_287, w40_290, w40_291, w40_294, w40_295, w40_298, w40_299, w40_300, w40_303, Ko_n, Ko_v, vX_i, vX_r, vX_l, vX_j, reduceIte]
              refine hQ _ ⟨?_, ?_, ?_, ?_, ?_, ?_, ?_, fun z => ?_⟩ (fR_u (fR_u (fR_u (fR_u (fR_u (fR_u fR_r))))))
              all_goals try simp (disch := omega) only [upA_s, upA_t]
              · exact a1
              · exact a2
              · exact a3
              · omega
              · omega
              · rfl
              · rfl
              · cases z
          · have z3 : 57 < f b := by omega
            simp (disch := (first | assumption | omega | exact Nat.le_of_ble_eq_true rfl | rfl)) only [w40_0, w40_1, w40_2, w40_5, w40_9, w40_12, w40_13, w40_16, w40_19, w40_20, w40_23, w40_24, w40_27, w40_28, w40_30, w40_33, w40_34, w40_37, w40_38, w40_41, w40_42, w40_44, w40_47, w40_48, w40_49, w40_52, w40_53, w40_54, w40_57, w40_60, w40_61, w40_62, w40_65, w40_66, w40_67, w40_70, w40_71, w40_72, w40_75, w40_76, w40_79, w40_82, w40_83, w40_86, w40_87, w40_90, w40_91, w40_94, w40_95, w40_98, w40_99, w40_102, w40_103, w40_106, w40_107, w40_108, w40_111, w40_112, w40_113, w40_116, w40_119, w40_122, w40_123, w40_126, w40_128, w40_131, w40_132, w40_135, w40_137, w40_140, w40_141, w40_142, w40_145, w40_146, w40_147, w40_149, w40_151, w40_154, w40_157, w40_160, w40_161, w40_164, w40_166, w40_169, w40_170, w40_173, w40_175, w40_178, w40_179, w40_180, w40_182, w40_184, w40_187, w40_190, w40_191, w40_192, w40_195, w40_196, w40_199, w40_200, w40_201, w40_204, w40_205, w40_208, w40_209, w40_212, w40_213, w40_214, w40_217, w40_218, w40_221, w40_223, w40_224, w40_227, w40_230, w40_231, w40_234, w40_235, w40_238, w40_239, w40_241, w40_242, w40_245, w40_246, w40_247, w40_250, w40_251, w40_252, w40_253, w40_255, w40_256, w40_259, w40_262, w40_265, w40_268, w40_269, w40_271, w40_272, w40_275, w40_276, w40_279, w40_282, w40_283, w40_286, w40_287, w40_290, w40_291, w40_294, w40_295, w40_298, w40_299, w40_300, w40_303, Ko_n, Ko_v, vX_i, vX_r, vX_l, vX_j, reduceIte, upA_s, upA_t, a2, a3, h7, e1, show ¬ f b = -1 by omega, z1, z2, z3, not_true, not_false_eq_true]
            rw [c310 hfb.1 hfb.2]
            cases hz : sgB (f b) with
            | true =>
              rw [hz, if_pos rfl] at hQ
              have hx : ¬ ixO (i32 (f b)).toInt8.toInt 11 0 < 0 := fun w => by rw [hix.1.mp w] at hz; cases hz
              simp (disch := (first | assumption | omega | exact Nat.le_of_ble_eq_true rfl | rfl)) only [w40_0, w40_1, w40_2, w40_5, w40_9, w40_12, w40_13, w40_16, w40_19, w40_20, w40_23, w40_24, w40_27, w40_28, w40_30, w40_33, w40_34, w40_37, w40_38, w40_41, w40_42, w40_44, w40_47, w40_48, w40_49, w40_52, w40_53, w40_54, w40_57, w40_60, w40_61, w40_62, w40_65, w40_66, w40_67, w40_70, w40_71, w40_72, w40_75, w40_76, w40_79, w40_82, w40_83, w40_86, w40_87, w40_90, w40_91, w40_94, w40_95, w40_98, w40_99, w40_102, w40_103, w40_106, w40_107, w40_108, w40_111, w40_112, w40_113, w40_116, w40_119, w40_122, w40_123, w40_126, w40_128, w40_131, w40_132, w40_135, w40_137, w40_140, w40_141, w40_142, w40_145, w40_146, w40_147, w40_149, w40_151, w40_154, w40_157, w40_160, w40_161, w40_164, w40_166, w40_169, w40_170, w40_173, w40_175, w40_178, w40_179, w40_180, w40_182, w40_184, w40_187, w40_190, w40_191, w40_192, w40_195, w40_196, w40_199, w40_200, w40_201, w40_204, w40_205, w40_208, w40_209, w40_212, w40_213, w40_214, w40_217, w40_218, w40_221, w40_223, w40_224, w40_227, w40_230, w40_231, w40_234, w40_235, w40_238, w40_239, w40_241, w40_242, w40_245, w40_246, w40_247, w40_250, w40_251, w40_252, w40_253, w40_255, w40_256, w40_259, w40_262, w40_265, w40_268, w40_269, w40_271, w40_272, w40_275, w40_276, w40_279, w40_282, w40_283, w40_286, w40_287, w40_290, w40_291, w40_294, w40_295, w40_298, w40_299, w40_300, w40_303, Ko_n, Ko_v, vX_i, vX_r, vX_l, vX_j, reduceIte, hx, upA_s, upA_t, not_false_eq_true, Int.reduceEq]
              refine hQ _ ⟨?_, ?_, ?_, ?_, ?_, ?_, ?_, fun _ => ⟨?_, ?_, ?_, ?_, ?_⟩⟩ (fR_u (fR_u (fR_u (fR_u fR_r))))
              all_goals simp (disch := omega) only [upA_s, upA_t]
              · exact a1
              · exact a2
              · exact a3
              · omega
              · omega
              · rw [a6]; unfold flt; rw [if_pos (show pB (0, pP s, b, b + 1, f b, pV s, pD s, pK s) = 0 from rfl), if_neg (show ¬ pT (0, pP s, b, b + 1, f b, pV s, pD s, pK s) = 3 by simp only [pT_]; omega)]
              · rw [a7]; unfold fpl; rw [if_pos (show pB (0, pP s, b, b + 1, f b, pV s, pD s, pK s) = 0 from rfl), if_neg (show ¬ pT (0, pP s, b, b + 1, f b, pV s, pD s, pK s) = 3 by simp only [pT_]; omega)]
              · rfl
              · rfl
              · unfold soP; rw [if_neg (show ¬ pT (0, pP s, b, b + 1, f b, pV s, pD s, pK s) = 0 by simp only [pT_]; omega), if_neg (show ¬ pT (0, pP s, b, b + 1, f b, pV s, pD s, pK s) = 1 by simp only [pT_]; omega), if_neg (show ¬ pT (0, pP s, b, b + 1, f b, pV s, pD s, pK s) = 2 by simp only [pT_]; omega)]
              · intro z; exact absurd (show f b = 2 from z) (by omega)
              · intro z; rfl
            | false =>
              rw [hz, if_neg (by simp)] at hQ
              have hx := hix.1.mpr hz
              simp (disch := (first | assumption | omega | exact Nat.le_of_ble_eq_true rfl | rfl)) only [w40_0, w40_1, w40_2, w40_5, w40_9, w40_12, w40_13, w40_16, w40_19, w40_20, w40_23, w40_24, w40_27, w40_28, w40_30, w40_33, w40_34, w40_37, w40_38, w40_41, w40_42, w40_44, w40_47, w40_48, w40_49, w40_52, w40_53, w40_54, w40_57, w40_60, w40_61, w40_62, w40_65, w40_66, w40_67, w40_70, w40_71, w40_72, w40_75, w40_76, w40_79, w40_82, w40_83, w40_86, w40_87, w40_90, w40_91, w40_94, w40_95, w40_98, w40_99, w40_102, w40_103, w40_106, w40_107, w40_108, w40_111, w40_112, w40_113, w40_116, w40_119, w40_122, w40_123, w40_126, w40_128, w40_131, w40_132, w40_135, w40_137, w40_140, w40_141, w40_142, w40_145, w40_146, w40_147, w40_149, w40_151, w40_154, w40_157, w40_160, w40_161, w40_164, w40_166, w40_169, w40_170, w40_173, w40_175, w40_178, w40_179, w40_180, w40_182, w40_184, w40_187, w40_190, w40_191, w40_192, w40_195, w40_196, w40_199, w40_200, w40_201, w40_204, w40_205, w40_208, w40_209, w40_212, w40_213, w40_214, w40_217, w40_218, w40_221, w40_223, w40_224, w40_227, w40_230, w40_231, w40_234, w40_235, w40_238, w40_239, w40_241, w40_242, w40_245, w40_246, w40_247, w40_250, w40_251, w40_252, w40_253, w40_255, w40_256, w40_259, w40_262, w40_265, w40_268, w40_269, w40_271, w40_272, w40_275, w40_276, w40_279, w40_282, w40_283, w40_286, w40_287, w40_290, w40_291, w40_294, w40_295, w40_298, w40_299, w40_300, w40_303, Ko_n, Ko_v, vX_i, vX_r, vX_l, vX_j, reduceIte, hx, upA_s, upA_t, not_true]
              rw [c39r (by simp (disch := omega) only [upA_s, upA_t]; exact a6)]
              simp (disch := (first | assumption | omega | exact Nat.le_of_ble_eq_true rfl | rfl)) only [w40_0, w40_1, w40_2, w40_5, w40_9, w40_12, w40_13, w40_16, w40_19, w40_20, w40_23, w40_24, w40_27, w40_28, w40_30, w40_33, w40_34, w40_37, w40_38, w40_41, w40_42, w40_44, w40_47, w40_48, w40_49, w40_52, w40_53, w40_54, w40_57, w40_60, w40_61, w40_62, w40_65, w40_66, w40_67, w40_70, w40_71, w40_72, w40_75, w40_76, w40_79, w40_82, w40_83, w40_86, w40_87, w40_90, w40_91, w40_94, w40_95, w40_98, w40_99, w40_102, w40_103, w40_106, w40_107, w40_108, w40_111, w40_112, w40_113, w40_116, w40_119, w40_122, w40_123, w40_126, w40_128, w40_131, w40_132, w40_135, w40_137, w40_140, w40_141, w40_142, w40_145, w40_146, w40_147, w40_149, w40_151, w40_154, w40_157, w40_160, w40_161, w40_164, w40_166, w40_169, w40_170, w40_173, w40_175, w40_178, w40_179, w40_180, w40_182, w40_184, w40_187, w40_190, w40_191, w40_192, w40_195, w40_196, w40_199, w40_200, w40_201, w40_204, w40_205, w40_208, w40_209, w40_212, w40_213, w40_214, w40_217, w40_218, w40_221, w40_223, w40_224, w40_227, w40_230, w40_231, w40_234, w40_235, w40_238, w40_239, w40_241, w40_242, w40_245, w40_246, w40_247, w40_250, w40_251, w40_252, w40_253, w40_255, w40_256, w40_259, w40_262, w40_265, w40_268, w40_269, w40_271, w40_272, w40_275, w40_276, w40_279, w40_282, w40_283, w40_286, w40_287, w40_290, w40_291, w40_294, w40_295, w40_298, w40_299, w40_300, w40_303, Ko_n, Ko_v, vX_i, vX_r, vX_l, vX_j, reduceIte]
              refine hQ _ ⟨?_, ?_, ?_, ?_, ?_, ?_, ?_, fun z => ?_⟩ (fR_u (fR_u (fR_u (fR_u (fR_u (fR_u fR_r))))))
              all_goals try simp (disch := omega) only [upA_s, upA_t]
              · exact a1
              · exact a2
              · exact a3
              · omega
              · omega
              · rfl
              · rfl
              · cases z
        · have z3 : 122 < f b := by omega
          simp (disch := (first | assumption | omega | exact Nat.le_of_ble_eq_true rfl | rfl)) only [w40_0, w40_1, w40_2, w40_5, w40_9, w40_12, w40_13, w40_16, w40_19, w40_20, w40_23, w40_24, w40_27, w40_28, w40_30, w40_33, w40_34, w40_37, w40_38, w40_41, w40_42, w40_44, w40_47, w40_48, w40_49, w40_52, w40_53, w40_54, w40_57, w40_60, w40_61, w40_62, w40_65, w40_66, w40_67, w40_70, w40_71, w40_72, w40_75, w40_76, w40_79, w40_82, w40_83, w40_86, w40_87, w40_90, w40_91, w40_94, w40_95, w40_98, w40_99, w40_102, w40_103, w40_106, w40_107, w40_108, w40_111, w40_112, w40_113, w40_116, w40_119, w40_122, w40_123, w40_126, w40_128, w40_131, w40_132, w40_135, w40_137, w40_140, w40_141, w40_142, w40_145, w40_146, w40_147, w40_149, w40_151, w40_154, w40_157, w40_160, w40_161, w40_164, w40_166, w40_169, w40_170, w40_173, w40_175, w40_178, w40_179, w40_180, w40_182, w40_184, w40_187, w40_190, w40_191, w40_192, w40_195, w40_196, w40_199, w40_200, w40_201, w40_204, w40_205, w40_208, w40_209, w40_212, w40_213, w40_214, w40_217, w40_218, w40_221, w40_223, w40_224, w40_227, w40_230, w40_231, w40_234, w40_235, w40_238, w40_239, w40_241, w40_242, w40_245, w40_246, w40_247, w40_250, w40_251, w40_252, w40_253, w40_255, w40_256, w40_259, w40_262, w40_265, w40_268, w40_269, w40_271, w40_272, w40_275, w40_276, w40_279, w40_282, w40_283, w40_286, w40_287, w40_290, w40_291, w40_294, w40_295, w40_298, w40_299, w40_300, w40_303, Ko_n, Ko_v, vX_i, vX_r, vX_l, vX_j, reduceIte, upA_s, upA_t, a2, a3, h7, e1, show ¬ f b = -1 by omega, z1, z3, show ¬ f b < 48 by omega, show 57 < f b by omega, not_true, not_false_eq_true]
          rw [c310 hfb.1 hfb.2]
          cases hz : sgB (f b) with
          | true =>
            exfalso
            have := of_decide_eq_true hz
            omega
          | false =>
            rw [hz, if_neg (by simp)] at hQ
            have hx := hix.1.mpr hz
            simp (disch := (first | assumption | omega | exact Nat.le_of_ble_eq_true rfl | rfl)) only [w40_0, w40_1, w40_2, w40_5, w40_9, w40_12, w40_13, w40_16, w40_19, w40_20, w40_23, w40_24, w40_27, w40_28, w40_30, w40_33, w40_34, w40_37, w40_38, w40_41, w40_42, w40_44, w40_47, w40_48, w40_49, w40_52, w40_53, w40_54, w40_57, w40_60, w40_61, w40_62, w40_65, w40_66, w40_67, w40_70, w40_71, w40_72, w40_75, w40_76, w40_79, w40_82, w40_83, w40_86, w40_87, w40_90, w40_91, w40_94, w40_95, w40_98, w40_99, w40_102, w40_103, w40_106, w40_107, w40_108, w40_111, w40_112, w40_113, w40_116, w40_119, w40_122, w40_123, w40_126, w40_128, w40_131, w40_132, w40_135, w40_137, w40_140, w40_141, w40_142, w40_145, w40_146, w40_147, w40_149, w40_151, w40_154, w40_157, w40_160, w40_161, w40_164, w40_166, w40_169, w40_170, w40_173, w40_175, w40_178, w40_179, w40_180, w40_182, w40_184, w40_187, w40_190, w40_191, w40_192, w40_195, w40_196, w40_199, w40_200, w40_201, w40_204, w40_205, w40_208, w40_209, w40_212, w40_213, w40_214, w40_217, w40_218, w40_221, w40_223, w40_224, w40_227, w40_230, w40_231, w40_234, w40_235, w40_238, w40_239, w40_241, w40_242, w40_245, w40_246, w40_247, w40_250, w40_251, w40_252, w40_253, w40_255, w40_256, w40_259, w40_262, w40_265, w40_268, w40_269, w40_271, w40_272, w40_275, w40_276, w40_279, w40_282, w40_283, w40_286, w40_287, w40_290, w40_291, w40_294, w40_295, w40_298, w40_299, w40_300, w40_303, Ko_n, Ko_v, vX_i, vX_r, vX_l, vX_j, reduceIte, hx, upA_s, upA_t, not_true]
            rw [c39r (by simp (disch := omega) only [upA_s, upA_t]; exact a6)]
            simp (disch := (first | assumption | omega | exact Nat.le_of_ble_eq_true rfl | rfl)) only [w40_0, w40_1, w40_2, w40_5, w40_9, w40_12, w40_13, w40_16, w40_19, w40_20, w40_23, w40_24, w40_27, w40_28, w40_30, w40_33, w40_34, w40_37, w40_38, w40_41, w40_42, w40_44, w40_47, w40_48, w40_49, w40_52, w40_53, w40_54, w40_57, w40_60, w40_61, w40_62, w40_65, w40_66, w40_67, w40_70, w40_71, w40_72, w40_75, w40_76, w40_79, w40_82, w40_83, w40_86, w40_87, w40_90, w40_91, w40_94, w40_95, w40_98, w40_99, w40_102, w40_103, w40_106, w40_107, w40_108, w40_111, w40_112, w40_113, w40_116, w40_119, w40_122, w40_123, w40_126, w40_128, w40_131, w40_132, w40_135, w40_137, w40_140, w40_141, w40_142, w40_145, w40_146, w40_147, w40_149, w40_151, w40_154, w40_157, w40_160, w40_161, w40_164, w40_166, w40_169, w40_170, w40_173, w40_175, w40_178, w40_179, w40_180, w40_182, w40_184, w40_187, w40_190, w40_191, w40_192, w40_195, w40_196, w40_199, w40_200, w40_201, w40_204, w40_205, w40_208, w40_209, w40_212, w40_213, w40_214, w40_217, w40_218, w40_221, w40_223, w40_224, w40_227, w40_230, w40_231, w40_234, w40_235, w40_238, w40_239, w40_241, w40_242, w40_245, w40_246, w40_247, w40_250, w40_251, w40_252, w40_253, w40_255, w40_256, w40_259, w40_262, w40_265, w40_268, w40_269, w40_271, w40_272, w40_275, w40_276, w40_279, w40_282, w40_283, w40_286, w40_287, w40_290, w40_291, w40_294, w40_295, w40_298, w40_299, w40_300, w40_303, Ko_n, Ko_v, vX_i, vX_r, vX_l, vX_j, reduceIte]
            refine hQ _ ⟨?_, ?_, ?_, ?_, ?_, ?_, ?_, fun z => ?_⟩ (fR_u (fR_u (fR_u (fR_u (fR_u (fR_u fR_r))))))
            all_goals try simp (disch := omega) only [upA_s, upA_t]
            · exact a1
            · exact a2
            · exact a3
            · omega
            · omega
            · rfl
            · rfl
            · cases z
theorem c40 {d : Nat} {k n : Int} {f : Int → Int} {T : Tt} {σ : St} {s : Ps} {Q : vmO → vmH → Prop} (hR : Rc f n σ s) (hf : tpOk f n) (hs : pO n s) (he : flt s = 0) (hQ : ∀ τ, Rc f n τ (rdOn f n s) → fR σ τ → Q (.inl none) (E T τ)) : Ca (d + 4) k 40 [.ref 75] (E T σ) Q := by
  obtain ⟨a1, a2, a3, a4, a5, a6, a7, a8⟩ := hR
  obtain ⟨g1, g2, g3, g4, g5⟩ := a8 he
  have hb0 := (flt_0 he).1
  have hfp := (flt_b hb0 (flt_0 he).2).2
  rw [he] at a6
  rw [hfp] at a7
  have hs3 := hs.2.2.1
  exact c40g a1 a2 a3 a6 a7 g2 hf hb0 (by omega) (by omega) hQ
