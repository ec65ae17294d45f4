/-! ===== the reference: judge, perform, decade ===== -/
theorem tyR_fq {σ τ : St} {t : Int} (h : fT σ τ) : tyR τ t = tyR σ t := by
  funext k
  unfold tyR
  rw [h 1239 382 (by omega)]
theorem c254 {d : Nat} {k t wh B : Int} {K : Int → Int} {T : Tt} {σ : St} {Q : vmO → vmH → Prop} (hK : σ 1200 382 = K) (hv : kV K B) (hB : B < 800000000) (hl : lwV K) (hr : rwK K) (hs : ∀ j, 0 ≤ j → j < 4 → -1 ≤ σ 1237 382 j ∧ σ 1237 382 j ≤ 3) (hm : ∀ j, 0 ≤ j → j < 4 → 0 ≤ σ 1238 382 j ∧ σ 1238 382 j ≤ 40) (x0 : -2147483648 ≤ t) (x1 : t < 2147483648) (y0 : -2147483648 ≤ wh) (y1 : wh < 2147483648)
    (hQ1 : ∀ u, u ≠ 0 → u = (if tfR σ t = 0 then (if 0 ≤ wh ∧ wh ≤ 3 then 0 else 3) else tfR σ t) → ∀ τ, fT σ τ → τ 1200 382 = K → τ 1204 382 0 = u → Q (.inl (some (.int (i32 0)))) (E T τ))
    (hQ2 : 0 ≤ t → t < 4 → σ 1237 382 t ≠ -1 → 0 ≤ wh → wh ≤ 3 → ∀ τ, fT σ τ → τ 1200 382 = K → τ 1204 382 0 = 0 → Q (.inl (some (.int (i32 (jdA (jdK (tyR σ t) (σ 1238 382 t).toNat K 0) wh))))) (E T τ)) : Ca (d + 8) k 254 [.ref 382, .int (i32 t), .int (i32 wh)] (E T σ) Q := by
  have h0 := ob_md
  have htf : 0 ≤ tfR σ t ∧ tfR σ t ≤ 2 := by unfold tfR; repeat' split <;> omega
  rw [n254 _ _ _ _ _ _ _ _ h0]
  simp (disch := (first | assumption | omega | exact Nat.le_of_ble_eq_true rfl | rfl)) only [w254_0, w254_1, w254_2, w254_3, w254_6, w254_9, w254_10, w254_13, w254_16, w254_17, w254_18, w254_19, w254_22, w254_25, w254_28, w254_29, w254_30, w254_33, w254_34, w254_37, w254_40, w254_41, w254_42, w254_43, w254_46, w254_47, w254_48, w254_49, w254_51, w254_52, w254_56, w254_57, w254_60, w254_61, w254_62, w254_65, w254_66, w254_67, w254_70, w254_71, w254_72, w254_75, w254_77, w254_78, w254_79, w254_81, w254_82, w254_83, w254_86, w254_88, w254_90, w254_93, w254_94, w254_95, w254_98, w254_100, w254_101, w254_102, w254_104, w254_105, w254_106, w254_107, w254_110, w254_113, w254_115, w254_116, w254_119, w254_122, w254_123, w254_126, w254_128, w254_129, w254_131, w254_132, w254_135, w254_137, w254_138, w254_140, w254_141, w254_144, w254_145, w254_148, w254_149, w254_152, w254_153, w254_154, w254_157, w254_159, w254_162, w254_163, w254_164, w254_167, w254_169, w254_172, w254_174, Ko_n, Ko_v, vX_i, vX_r, vX_l, vX_j, reduceIte]
  rw [c251 hs x0 x1]
  have kU : ∀ u, (upA σ 1204 382 fun _ => u) 1200 382 = K := fun u => by rw [upA_t (by omega)]; exact hK
  by_cases a : tfR σ t = 0
  · rw [if_pos a] at hQ1
    have a2 : (0 ≤ t ∧ t < 4) ∧ σ 1237 382 t ≠ -1 := by
      unfold tfR at a
      by_cases b : 0 ≤ t ∧ t < 4
      · rw [if_pos b] at a
        exact ⟨b, fun e => by rw [if_pos e] at a; omega⟩
      · rw [if_neg b] at a; omega
    obtain ⟨⟨t0, t1⟩, t2⟩ := a2
    have hmt := hm t t0 t1
    rw [a]
    simp (disch := (first | assumption | omega | exact Nat.le_of_ble_eq_true rfl | rfl)) only [w254_6, w254_9, w254_10, w254_13, w254_16, w254_17, w254_18, w254_19, w254_22, w254_25, w254_28, w254_29, w254_30, w254_33, w254_34, w254_37, w254_40, w254_41, w254_42, w254_43, w254_46, w254_47, w254_48, w254_49, w254_51, w254_52, Ko_n, Ko_v, vX_i, vX_r, vX_l, vX_j, reduceIte, upA_s, not_true]
    rw [c176 (by omega) (by omega) (by omega) (by omega) (by omega) (by omega) (by omega)]
    by_cases b : 0 ≤ wh ∧ wh ≤ 3
    · rw [if_pos b]
      simp (disch := (first | assumption | omega | exact Nat.le_of_ble_eq_true rfl | rfl)) only [w254_6, w254_9, w254_10, w254_13, w254_16, w254_17, w254_18, w254_19, w254_22, w254_25, w254_28, w254_29, w254_30, w254_33, w254_34, w254_37, w254_40, w254_41, w254_42, w254_43, w254_46, w254_47, w254_48, w254_49, w254_51, w254_52, Ko_n, Ko_v, vX_i, vX_r, vX_l, vX_j, reduceIte, Int.reduceEq, not_false_eq_true, upA_s, Int.le_refl]
      refine c239 (kU 0) fun A hA => ?_
      -- the row of told deeds
      have fin : ∀ (τ : St) (K' : Int → Int) (pl wy : Int) (l6 : Value) (i : Int), fT σ τ → τ 1200 382 = K' → τ 1204 382 0 = 0 → (∀ j, 0 ≤ j → j < 85 → τ 1222 382 j = K (7 + j)) → stK K K' → (0 ≤ K' 89 ∧ K' 89 < 2147483648) → (0 ≤ K' 91 ∧ K' 91 < 2147483648) → jdK (tyR σ t) (σ 1238 382 t).toNat K 0 = (K', i, wy) → pl = (if wy = 0 then -1 else i) → ∀ l5 : Value, Wp (d + 8) M_X12_judge 122 [.ref 382, .int (i32 t), .int (i32 wh), .int (i32 pl), .int (i32 wy), l5, l6] [] (E T τ) Q := by
        intro τ K' pl wy l6 i h1 h2 h3 h4 h5 h89 h91 hj hpl l5
        have q := hQ2 t0 t1 t2 b.1 b.2 (upA τ 1200 382 K) (fT_u h1 (by omega)) upA_s (by rw [upA_t (by omega)]; exact h3)
        rw [hj] at q
        unfold jdA at q
        dsimp only at q
        simp (disch := (first | assumption | omega | exact Nat.le_of_ble_eq_true rfl | rfl)) only [w254_122, w254_123, w254_126, w254_128, w254_129, w254_131, w254_132, w254_135, w254_137, w254_138, w254_140, w254_141, Ko_n, Ko_v, vX_i, vX_r, vX_l, vX_j, reduceIte, h2]
        rw [c240 h2 h4 h5]
        by_cases w0 : wh = 0
        · rw [if_pos w0, ← hpl] at q
          simp (disch := (first | assumption | omega | exact Nat.le_of_ble_eq_true rfl | rfl)) only [w254_0, w254_1, w254_2, w254_3, w254_6, w254_9, w254_10, w254_13, w254_16, w254_17, w254_18, w254_19, w254_22, w254_25, w254_28, w254_29, w254_30, w254_33, w254_34, w254_37, w254_40, w254_41, w254_42, w254_43, w254_46, w254_47, w254_48, w254_49, w254_51, w254_52, w254_56, w254_57, w254_60, w254_61, w254_62, w254_65, w254_66, w254_67, w254_70, w254_71, w254_72, w254_75, w254_77, w254_78, w254_79, w254_81, w254_82, w254_83, w254_86, w254_88, w254_90, w254_93, w254_94, w254_95, w254_98, w254_100, w254_101, w254_102, w254_104, w254_105, w254_106, w254_107, w254_110, w254_113, w254_115, w254_116, w254_119, w254_122, w254_123, w254_126, w254_128, w254_129, w254_131, w254_132, w254_135, w254_137, w254_138, w254_140, w254_141, w254_144, w254_145, w254_148, w254_149, w254_152, w254_153, w254_154, w254_157, w254_159, w254_162, w254_163, w254_164, w254_167, w254_169, w254_172, w254_174, Ko_n, Ko_v, vX_i, vX_r, vX_l, vX_j, reduceIte, w0, not_true]
          exact q
        · rw [if_neg w0] at q
          by_cases w1 : wh = 1
          · rw [if_pos w1] at q
            simp (disch := (first | assumption | omega | exact Nat.le_of_ble_eq_true rfl | rfl)) only [w254_0, w254_1, w254_2, w254_3, w254_6, w254_9, w254_10, w254_13, w254_16, w254_17, w254_18, w254_19, w254_22, w254_25, w254_28, w254_29, w254_30, w254_33, w254_34, w254_37, w254_40, w254_41, w254_42, w254_43, w254_46, w254_47, w254_48, w254_49, w254_51, w254_52, w254_56, w254_57, w254_60, w254_61, w254_62, w254_65, w254_66, w254_67, w254_70, w254_71, w254_72, w254_75, w254_77, w254_78, w254_79, w254_81, w254_82, w254_83, w254_86, w254_88, w254_90, w254_93, w254_94, w254_95, w254_98, w254_100, w254_101, w254_102, w254_104, w254_105, w254_106, w254_107, w254_110, w254_113, w254_115, w254_116, w254_119, w254_122, w254_123, w254_126, w254_128, w254_129, w254_131, w254_132, w254_135, w254_137, w254_138, w254_140, w254_141, w254_144, w254_145, w254_148, w254_149, w254_152, w254_153, w254_154, w254_157, w254_159, w254_162, w254_163, w254_164, w254_167, w254_169, w254_172, w254_174, Ko_n, Ko_v, vX_i, vX_r, vX_l, vX_j, reduceIte, w1, Int.reduceEq, not_true, not_false_eq_true]
            exact q
          · rw [if_neg w1] at q
            by_cases w2 : wh = 2
            · rw [if_pos w2] at q
              simp (disch := (first | assumption | omega | exact Nat.le_of_ble_eq_true rfl | rfl)) only [w254_0, w254_1, w254_2, w254_3, w254_6, w254_9, w254_10, w254_13, w254_16, w254_17, w254_18, w254_19, w254_22, w254_25, w254_28, w254_29, w254_30, w254_33, w254_34, w254_37, w254_40, w254_41, w254_42, w254_43, w254_46, w254_47, w254_48, w254_49, w254_51, w254_52, w254_56, w254_57, w254_60, w254_61, w254_62, w254_65, w254_66, w254_67, w254_70, w254_71, w254_72, w254_75, w254_77, w254_78, w254_79, w254_81, w254_82, w254_83, w254_86, w254_88, w254_90, w254_93, w254_94, w254_95, w254_98, w254_100, w254_101, w254_102, w254_104, w254_105, w254_106, w254_107, w254_110, w254_113, w254_115, w254_116, w254_119, w254_122, w254_123, w254_126, w254_128, w254_129, w254_131, w254_132, w254_135, w254_137, w254_138, w254_140, w254_141, w254_144, w254_145, w254_148, w254_149, w254_152, w254_153, w254_154, w254_157, w254_159, w254_162, w254_163, w254_164, w254_167, w254_169, w254_172, w254_174, Ko_n, Ko_v, vX_i, vX_r, vX_l, vX_j, reduceIte, w2, Int.reduceEq, not_true, not_false_eq_true]
              exact q
            · rw [if_neg w2] at q
              simp (disch := (first | assumption | omega | exact Nat.le_of_ble_eq_true rfl | rfl)) only [w254_0, w254_1, w254_2, w254_3, w254_6, w254_9, w254_10, w254_13, w254_16, w254_17, w254_18, w254_19, w254_22, w254_25, w254_28, w254_29, w254_30, w254_33, w254_34, w254_37, w254_40, w254_41, w254_42, w254_43, w254_46, w254_47, w254_48, w254_49, w254_51, w254_52, w254_56, w254_57, w254_60, w254_61, w254_62, w254_65, w254_66, w254_67, w254_70, w254_71, w254_72, w254_75, w254_77, w254_78, w254_79, w254_81, w254_82, w254_83, w254_86, w254_88, w254_90, w254_93, w254_94, w254_95, w254_98, w254_100, w254_101, w254_102, w254_104, w254_105, w254_106, w254_107, w254_110, w254_113, w254_115, w254_116, w254_119, w254_122, w254_123, w254_126, w254_128, w254_129, w254_131, w254_132, w254_135, w254_137, w254_138, w254_140, w254_141, w254_144, w254_145, w254_148, w254_149, w254_152, w254_153, w254_154, w254_157, w254_159, w254_162, w254_163, w254_164, w254_167, w254_169, w254_172, w254_174, Ko_n, Ko_v, vX_i, vX_r, vX_l, vX_j, reduceIte, w0, w1, w2, not_false_eq_true]
              exact q
      have loop : ∀ (m i : Nat) (τ : St) (K' : Int → Int) (B' : Int) (wy : Int), (i : Int) + m = σ 1238 382 t → fT σ τ → τ 1200 382 = K' → τ 1204 382 0 = 0 → (∀ j, 0 ≤ j → j < 85 → τ 1222 382 j = K (7 + j)) → stK K K' → kV K' B' → B' + 6516 * m < 900000000 → jdK (tyR σ t) (σ 1238 382 t).toNat K 0 = jdK (tyR σ t) m K' i → wy = 0 → Wp (d + 8) M_X12_judge 54 [.ref 382, .int (i32 t), .int (i32 wh), .int (i32 (-1)), .int (i32 wy), .int (i32 i), vmJ] [] (E T τ) Q := by
        intro m
        induction m with
        | zero =>
          intro i τ K' B' wy hi h1 h2 h3 h4 h5 h6 h7 h8 h9
          have hi' : (i : Int) = σ 1238 382 t := by omega
          have e38 : τ 1238 382 = σ 1238 382 := h1 1238 382 (by omega)
          have s89 : 0 ≤ K' 89 ∧ K' 89 ≤ B' := h6.2.1.2.2.1
          have s91 : 0 ≤ K' 91 ∧ K' 91 ≤ B' := h6.2.1.2.2.2.2
          rw [w254_54]
          simp (disch := (first | assumption | omega | exact Nat.le_of_ble_eq_true rfl | rfl)) only [w254_56, w254_57, w254_60, w254_61, w254_62, w254_65, w254_66, w254_67, w254_70, w254_71, w254_72, w254_75, w254_77, w254_78, w254_79, w254_81, w254_82, w254_83, w254_86, w254_88, w254_90, w254_93, w254_94, w254_95, w254_98, w254_100, w254_101, w254_102, w254_104, w254_105, w254_106, w254_107, w254_110, w254_113, w254_115, w254_116, w254_119, Ko_n, Ko_v, vX_i, vX_r, vX_l, vX_j, reduceIte, e38, hi', Int.le_refl]
          exact fin τ K' (-1) wy _ i h1 h2 h3 h4 h5 (by omega) (by omega) (by rw [h8, h9]; rfl) (by rw [h9, if_pos rfl]) _
        | succ m ih =>
          intro i τ K' B' wy hi h1 h2 h3 h4 h5 h6 h7 h8 h9
          have e38 : τ 1238 382 = σ 1238 382 := h1 1238 382 (by omega)
          have e39 := tyR_fq (t := t) h1
          have vin := tyR_in (σ := τ) (t := t) (k := (i : Int))
          have lw := lw_st h5 hl hr
          have hti := tyR_i (σ := τ) (t := t) (k := (i : Int))
          simp only [jdK] at h8
          rw [w254_54]
          simp (disch := (first | assumption | omega | exact Nat.le_of_ble_eq_true rfl | rfl)) only [w254_56, w254_57, w254_60, w254_61, w254_62, w254_65, w254_66, w254_67, w254_70, w254_71, w254_72, w254_75, w254_77, w254_78, w254_79, w254_81, w254_82, w254_83, w254_86, w254_88, w254_90, w254_93, w254_94, w254_95, w254_98, w254_100, w254_101, w254_102, w254_104, w254_105, w254_106, w254_107, w254_110, w254_113, w254_115, w254_116, w254_119, Ko_n, Ko_v, vX_i, vX_r, vX_l, vX_j, reduceIte, e38, show ¬ σ 1238 382 t ≤ (i : Int) by omega, not_true, hti]
          refine c252 h2 h6 (by omega) vin.1 vin.2 fun ρ g1 g2 => ?_
          have wi := whyK_in (K := K') (v := tyR τ t i)
          rw [e39] at wi ⊢
          have fr := fT_t h1 (fq_T g1)
          have e39' := tyR_fq (t := t) fr
          have hti' := tyR_i (σ := ρ) (t := t) (k := (i : Int))
          have g3 : ρ 1204 382 0 = 0 := by rw [g1 1204 382 (by omega)]; exact h3
          have g4 : ∀ j, 0 ≤ j → j < 85 → ρ 1222 382 j = K (7 + j) := fun j j0 j1 => by rw [g1 1222 382 (by omega)]; exact h4 j j0 j1
          have e38' : ρ 1238 382 = σ 1238 382 := fr 1238 382 (by omega)
          rw [e39'] at hti'
          by_cases e : whyK K' (tyR σ t i) = 0
          · rw [if_pos e] at h8
            rw [e]
            simp (disch := (first | assumption | omega | exact Nat.le_of_ble_eq_true rfl | rfl)) only [w254_56, w254_57, w254_60, w254_61, w254_62, w254_65, w254_66, w254_67, w254_70, w254_71, w254_72, w254_75, w254_77, w254_78, w254_79, w254_81, w254_82, w254_83, w254_86, w254_88, w254_90, w254_93, w254_94, w254_95, w254_98, w254_100, w254_101, w254_102, w254_104, w254_105, w254_106, w254_107, w254_110, w254_113, w254_115, w254_116, w254_119, Ko_n, Ko_v, vX_i, vX_r, vX_l, vX_j, reduceIte, not_true, hti', i64_i tyR_in.1 tyR_in.2]
            refine c253 g2 h6 (by omega) lw.1 lw.2 e fun ω f1 f2 => ?_
            have hd := doK_V h6 (B' := B' + 6516) (by omega) e
            simp (disch := (first | assumption | omega | exact Nat.le_of_ble_eq_true rfl | rfl)) only [w254_56, w254_57, w254_60, w254_61, w254_62, w254_65, w254_66, w254_67, w254_70, w254_71, w254_72, w254_75, w254_77, w254_78, w254_79, w254_81, w254_82, w254_83, w254_86, w254_88, w254_90, w254_93, w254_94, w254_95, w254_98, w254_100, w254_101, w254_102, w254_104, w254_105, w254_106, w254_107, w254_110, w254_113, w254_115, w254_116, w254_119, Ko_n, Ko_v, vX_i, vX_r, vX_l, vX_j, reduceIte]
            exact ih (i + 1) ω _ (B' + 6516) 0 (by omega) (fT_t fr (fq_T f1)) f2 (by rw [f1 1204 382 (by omega)]; exact g3) (fun j j0 j1 => by rw [f1 1222 382 (by omega)]; exact g4 j j0 j1) (stK_t h5 hd.1) (kV_act h6 (by omega) hd.1 hd.2) (by omega) h8 rfl
          · rw [if_neg e] at h8
            have s89 : 0 ≤ K' 89 ∧ K' 89 ≤ B' := h6.2.1.2.2.1
            have s91 : 0 ≤ K' 91 ∧ K' 91 ≤ B' := h6.2.1.2.2.2.2
            have fn := fin ρ K' (i : Int) (whyK K' (tyR σ t i)) vmJ i fr g2 g3 g4 h5 (by omega) (by omega) h8 (by rw [if_neg e]) (.int (i32 ((i : Int) + 1)))
            simp (disch := (first | assumption | omega | exact Nat.le_of_ble_eq_true rfl | rfl)) only [w254_56, w254_57, w254_60, w254_61, w254_62, w254_65, w254_66, w254_67, w254_70, w254_71, w254_72, w254_75, w254_77, w254_78, w254_79, w254_81, w254_82, w254_83, w254_86, w254_88, w254_90, w254_93, w254_94, w254_95, w254_98, w254_100, w254_101, w254_102, w254_104, w254_105, w254_106, w254_107, w254_110, w254_113, w254_115, w254_116, w254_119, Ko_n, Ko_v, vX_i, vX_r, vX_l, vX_j, reduceIte, e, not_false_eq_true]
            rw [w254_54]
            by_cases e2 : σ 1238 382 t ≤ (i : Int) + 1
            · simp (disch := (first | assumption | omega | exact Nat.le_of_ble_eq_true rfl | rfl)) only [w254_56, w254_57, w254_60, w254_61, w254_62, w254_65, w254_66, w254_67, w254_70, w254_71, w254_72, w254_75, w254_77, w254_78, w254_79, w254_81, w254_82, w254_83, w254_86, w254_88, w254_90, w254_93, w254_94, w254_95, w254_98, w254_100, w254_101, w254_102, w254_104, w254_105, w254_106, w254_107, w254_110, w254_113, w254_115, w254_116, w254_119, Ko_n, Ko_v, vX_i, vX_r, vX_l, vX_j, reduceIte, e38', e2]
              exact fn
            · simp (disch := (first | assumption | omega | exact Nat.le_of_ble_eq_true rfl | rfl)) only [w254_56, w254_57, w254_60, w254_61, w254_62, w254_65, w254_66, w254_67, w254_70, w254_71, w254_72, w254_75, w254_77, w254_78, w254_79, w254_81, w254_82, w254_83, w254_86, w254_88, w254_90, w254_93, w254_94, w254_95, w254_98, w254_100, w254_101, w254_102, w254_104, w254_105, w254_106, w254_107, w254_110, w254_113, w254_115, w254_116, w254_119, Ko_n, Ko_v, vX_i, vX_r, vX_l, vX_j, reduceIte, e38', e2, show ¬ (i : Int) = -1 by omega, not_false_eq_true]
              exact fn
      simp (disch := (first | assumption | omega | exact Nat.le_of_ble_eq_true rfl | rfl)) only [w254_46, w254_47, w254_48, w254_49, w254_51, w254_52, Ko_n, Ko_v, vX_i, vX_r, vX_l, vX_j, reduceIte]
      exact loop (σ 1238 382 t).toNat 0 _ K B 0 (by omega) (fT_u (fT_u fT_r (by omega)) (by omega)) (by rw [upA_t (by omega)]; exact kU 0) (by rw [upA_t (by omega), upA_s]) (fun j j0 j1 => by rw [upA_s]; exact hA j j0 j1) stK_r hv (by omega) rfl rfl
    · rw [if_neg b] at hQ1 ⊢
      simp (disch := (first | assumption | omega | exact Nat.le_of_ble_eq_true rfl | rfl)) only [w254_6, w254_9, w254_10, w254_13, w254_16, w254_17, w254_18, w254_19, w254_22, w254_25, w254_28, w254_29, w254_30, w254_33, w254_34, w254_37, w254_40, w254_41, w254_42, w254_43, w254_46, w254_47, w254_48, w254_49, w254_51, w254_52, Ko_n, Ko_v, vX_i, vX_r, vX_l, vX_j, reduceIte, not_true, upA_upA, upA_s, show ¬ (3 : Int) ≤ 0 by omega]
      exact hQ1 3 (by omega) rfl _ (fT_u fT_r (by omega)) (by rw [upA_t (by omega)]; exact hK) (by rw [upA_s])
  · rw [if_neg a] at hQ1
    simp (disch := (first | assumption | omega | exact Nat.le_of_ble_eq_true rfl | rfl)) only [w254_6, w254_9, w254_10, w254_13, w254_16, w254_17, w254_18, w254_19, w254_22, w254_25, w254_28, w254_29, w254_30, w254_33, w254_34, w254_37, w254_40, w254_41, w254_42, w254_43, w254_46, w254_47, w254_48, w254_49, w254_51, w254_52, Ko_n, Ko_v, vX_i, vX_r, vX_l, vX_j, reduceIte, upA_s, a, not_false_eq_true, show ¬ tfR σ t ≤ 0 by omega]
    exact hQ1 _ a rfl _ (fT_u fT_r (by omega)) (by rw [upA_t (by omega)]; exact hK) (by rw [upA_s])
theorem c255 {d : Nat} {k t B : Int} {K : Int → Int} {T : Tt} {σ : St} {Q : vmO → vmH → Prop} (hK : σ 1200 382 = K) (hv : kV K B) (hB : B < 800000000) (hl : lwV K) (hr : rwK K) (hs : ∀ j, 0 ≤ j → j < 4 → -1 ≤ σ 1237 382 j ∧ σ 1237 382 j ≤ 3) (hm : ∀ j, 0 ≤ j → j < 4 → 0 ≤ σ 1238 382 j ∧ σ 1238 382 j ≤ 40) (x0 : -2147483648 ≤ t) (x1 : t < 2147483648)
    (hQ1 : ∀ u, u ≠ 0 → u = tfR σ t → ∀ τ, fT σ τ → τ 1200 382 = K → τ 1204 382 0 = u → Q (.inl (some (.int (i32 0)))) (E T τ))
    (hQ2 : 0 ≤ t → t < 4 → σ 1237 382 t ≠ -1 → ∀ τ, fT σ τ → τ 1200 382 = (pfK (tyR σ t) (σ 1238 382 t).toNat K 0).2 → τ 1204 382 0 = 0 → lwV (pfK (tyR σ t) (σ 1238 382 t).toNat K 0).2 → rwK (pfK (tyR σ t) (σ 1238 382 t).toNat K 0).2 → Q (.inl (some (.int (i32 (pfK (tyR σ t) (σ 1238 382 t).toNat K 0).1)))) (E T τ)) : Ca (d + 8) k 255 [.ref 382, .int (i32 t)] (E T σ) Q := by
  have h0 := ob_md
  have htf : 0 ≤ tfR σ t ∧ tfR σ t ≤ 2 := by unfold tfR; repeat' split <;> omega
  rw [n255 _ _ _ _ _ _ _ h0]
  simp (disch := (first | assumption | omega | exact Nat.le_of_ble_eq_true rfl | rfl)) only [w255_0, w255_1, w255_2, w255_3, w255_6, w255_9, w255_10, w255_13, w255_16, w255_17, w255_18, w255_19, w255_21, w255_22, w255_25, w255_26, w255_27, w255_30, w255_31, w255_32, w255_35, w255_37, w255_38, w255_39, w255_40, w255_41, w255_42, w255_45, w255_48, w255_49, w255_52, w255_53, w255_54, w255_57, w255_59, w255_60, w255_61, w255_62, w255_63, w255_64, w255_65, w255_68, w255_71, w255_74, w255_75, Ko_n, Ko_v, vX_i, vX_r, vX_l, vX_j, reduceIte]
  rw [c251 hs x0 x1]
  by_cases a : tfR σ t = 0
  · have a2 : (0 ≤ t ∧ t < 4) ∧ σ 1237 382 t ≠ -1 := by
      unfold tfR at a
      by_cases b : 0 ≤ t ∧ t < 4
      · rw [if_pos b] at a
        exact ⟨b, fun e => by rw [if_pos e] at a; omega⟩
      · rw [if_neg b] at a; omega
    obtain ⟨⟨t0, t1⟩, t2⟩ := a2
    have hmt := hm t t0 t1
    have hq := hQ2 t0 t1 t2
    rw [a]
    simp (disch := (first | assumption | omega | exact Nat.le_of_ble_eq_true rfl | rfl)) only [w255_6, w255_9, w255_10, w255_13, w255_16, w255_17, w255_18, w255_19, Ko_n, Ko_v, vX_i, vX_r, vX_l, vX_j, reduceIte, upA_s, Int.le_refl]
    have loop : ∀ (m i : Nat) (τ : St) (K' : Int → Int) (B' : Int), (i : Int) + m = σ 1238 382 t → fT σ τ → τ 1200 382 = K' → τ 1204 382 0 = 0 → kV K' B' → lwV K' → rwK K' → B' + 6516 * m < 900000000 → pfK (tyR σ t) (σ 1238 382 t).toNat K 0 = pfK (tyR σ t) m K' i → Wp (d + 8) M_X12_perform 20 [.ref 382, .int (i32 t), .int (i32 i)] [] (E T τ) Q := by
      intro m
      induction m with
      | zero =>
        intro i τ K' B' hi h1 h2 h3 h6 hl' hr' h7 h8
        have hi' : (i : Int) = σ 1238 382 t := by omega
        have e38 : τ 1238 382 = σ 1238 382 := h1 1238 382 (by omega)
        rw [h8] at hq
        rw [w255_20]
        simp (disch := (first | assumption | omega | exact Nat.le_of_ble_eq_true rfl | rfl)) only [w255_0, w255_1, w255_2, w255_3, w255_6, w255_9, w255_10, w255_13, w255_16, w255_17, w255_18, w255_19, w255_21, w255_22, w255_25, w255_26, w255_27, w255_30, w255_31, w255_32, w255_35, w255_37, w255_38, w255_39, w255_40, w255_41, w255_42, w255_45, w255_48, w255_49, w255_52, w255_53, w255_54, w255_57, w255_59, w255_60, w255_61, w255_62, w255_63, w255_64, w255_65, w255_68, w255_71, w255_74, w255_75, Ko_n, Ko_v, vX_i, vX_r, vX_l, vX_j, reduceIte, e38, hi', Int.le_refl]
        rw [hi'] at hq
        exact hq τ h1 h2 h3 hl' hr'
      | succ m ih =>
        intro i τ K' B' hi h1 h2 h3 h6 hl' hr' h7 h8
        have e38 : τ 1238 382 = σ 1238 382 := h1 1238 382 (by omega)
        have e39 := tyR_fq (t := t) h1
        have vin := tyR_in (σ := τ) (t := t) (k := (i : Int))
        have hti := tyR_i (σ := τ) (t := t) (k := (i : Int))
        simp only [pfK] at h8
        rw [w255_20]
        simp (disch := (first | assumption | omega | exact Nat.le_of_ble_eq_true rfl | rfl)) only [w255_0, w255_1, w255_2, w255_3, w255_6, w255_9, w255_10, w255_13, w255_16, w255_17, w255_18, w255_19, w255_21, w255_22, w255_25, w255_26, w255_27, w255_30, w255_31, w255_32, w255_35, w255_37, w255_38, w255_39, w255_40, w255_41, w255_42, w255_45, w255_48, w255_49, w255_52, w255_53, w255_54, w255_57, w255_59, w255_60, w255_61, w255_62, w255_63, w255_64, w255_65, w255_68, w255_71, w255_74, w255_75, Ko_n, Ko_v, vX_i, vX_r, vX_l, vX_j, reduceIte, e38, show ¬ σ 1238 382 t ≤ (i : Int) by omega, hti]
        refine c252 h2 h6 (by omega) vin.1 vin.2 fun ρ g1 g2 => ?_
        have wi := whyK_in (K := K') (v := tyR τ t i)
        rw [e39] at wi ⊢
        have fr := fT_t h1 (fq_T g1)
        have e39' := tyR_fq (t := t) fr
        have hti' := tyR_i (σ := ρ) (t := t) (k := (i : Int))
        rw [e39'] at hti'
        have g3 : ρ 1204 382 0 = 0 := by rw [g1 1204 382 (by omega)]; exact h3
        by_cases e : whyK K' (tyR σ t i) = 0
        · rw [if_pos e] at h8
          rw [e]
          have vk := kpK_V h6
          have lk := lw_kp h6 hl' hr'
          have wk : whyK (kpK K') (tyR σ t i) = 0 := by rw [mdK_why (loK_md (kpK_lo h6.1.2.2.2.2.1.1 h6.1.2.2.2.2.1.2)) h6]; exact e
          simp (disch := (first | assumption | omega | exact Nat.le_of_ble_eq_true rfl | rfl)) only [w255_0, w255_1, w255_2, w255_3, w255_6, w255_9, w255_10, w255_13, w255_16, w255_17, w255_18, w255_19, w255_21, w255_22, w255_25, w255_26, w255_27, w255_30, w255_31, w255_32, w255_35, w255_37, w255_38, w255_39, w255_40, w255_41, w255_42, w255_45, w255_48, w255_49, w255_52, w255_53, w255_54, w255_57, w255_59, w255_60, w255_61, w255_62, w255_63, w255_64, w255_65, w255_68, w255_71, w255_74, w255_75, Ko_n, Ko_v, vX_i, vX_r, vX_l, vX_j, reduceIte, not_true]
          rw [c238 g2 h6]
          have hti'' : i64 ((upA ρ 1200 382 (kpK K')) 1239 382 (40 * t + i)) = i64 (tyR σ t i) := by rw [upA_t (by omega)]; exact hti'
          simp (disch := (first | assumption | omega | exact Nat.le_of_ble_eq_true rfl | rfl)) only [w255_0, w255_1, w255_2, w255_3, w255_6, w255_9, w255_10, w255_13, w255_16, w255_17, w255_18, w255_19, w255_21, w255_22, w255_25, w255_26, w255_27, w255_30, w255_31, w255_32, w255_35, w255_37, w255_38, w255_39, w255_40, w255_41, w255_42, w255_45, w255_48, w255_49, w255_52, w255_53, w255_54, w255_57, w255_59, w255_60, w255_61, w255_62, w255_63, w255_64, w255_65, w255_68, w255_71, w255_74, w255_75, Ko_n, Ko_v, vX_i, vX_r, vX_l, vX_j, reduceIte, hti'', i64_i tyR_in.1 tyR_in.2]
          refine c253 (K := kpK K') upA_s vk (by omega) lk.1 lk.2 wk fun ω f1 f2 => ?_
          have hd := doK_V vk (B' := B' + 6516) (by omega) wk
          have ld := lw_st hd.1 lk.1 lk.2
          simp (disch := (first | assumption | omega | exact Nat.le_of_ble_eq_true rfl | rfl)) only [w255_0, w255_1, w255_2, w255_3, w255_6, w255_9, w255_10, w255_13, w255_16, w255_17, w255_18, w255_19, w255_21, w255_22, w255_25, w255_26, w255_27, w255_30, w255_31, w255_32, w255_35, w255_37, w255_38, w255_39, w255_40, w255_41, w255_42, w255_45, w255_48, w255_49, w255_52, w255_53, w255_54, w255_57, w255_59, w255_60, w255_61, w255_62, w255_63, w255_64, w255_65, w255_68, w255_71, w255_74, w255_75, Ko_n, Ko_v, vX_i, vX_r, vX_l, vX_j, reduceIte]
          exact ih (i + 1) ω _ (B' + 6516) (by omega) (fT_t (fT_u fr (by omega)) (fq_T f1)) f2 (by rw [f1 1204 382 (by omega), upA_t (by omega)]; exact g3) (kV_act vk (by omega) hd.1 hd.2) ld.1 ld.2 (by omega) h8
        · rw [if_neg e] at h8
          rw [h8] at hq
          simp (disch := (first | assumption | omega | exact Nat.le_of_ble_eq_true rfl | rfl)) only [w255_0, w255_1, w255_2, w255_3, w255_6, w255_9, w255_10, w255_13, w255_16, w255_17, w255_18, w255_19, w255_21, w255_22, w255_25, w255_26, w255_27, w255_30, w255_31, w255_32, w255_35, w255_37, w255_38, w255_39, w255_40, w255_41, w255_42, w255_45, w255_48, w255_49, w255_52, w255_53, w255_54, w255_57, w255_59, w255_60, w255_61, w255_62, w255_63, w255_64, w255_65, w255_68, w255_71, w255_74, w255_75, Ko_n, Ko_v, vX_i, vX_r, vX_l, vX_j, reduceIte, e, not_false_eq_true]
          exact hq ρ fr g2 g3 hl' hr'
    exact loop (σ 1238 382 t).toNat 0 _ K B (by omega) (fT_u fT_r (by omega)) (by rw [upA_t (by omega)]; exact hK) (by rw [upA_s]) hv hl hr (by omega) rfl
  · simp (disch := (first | assumption | omega | exact Nat.le_of_ble_eq_true rfl | rfl)) only [w255_0, w255_1, w255_2, w255_3, w255_6, w255_9, w255_10, w255_13, w255_16, w255_17, w255_18, w255_19, w255_21, w255_22, w255_25, w255_26, w255_27, w255_30, w255_31, w255_32, w255_35, w255_37, w255_38, w255_39, w255_40, w255_41, w255_42, w255_45, w255_48, w255_49, w255_52, w255_53, w255_54, w255_57, w255_59, w255_60, w255_61, w255_62, w255_63, w255_64, w255_65, w255_68, w255_71, w255_74, w255_75, Ko_n, Ko_v, vX_i, vX_r, vX_l, vX_j, reduceIte, upA_s, show ¬ tfR σ t ≤ 0 by omega]
    exact hQ1 _ a rfl _ (fT_u fT_r (by omega)) (by rw [upA_t (by omega)]; exact hK) (by rw [upA_s])
theorem c256 {d : Nat} {k m : Int} {T : Tt} {σ : St} {Q : vmO → vmH → Prop} (m0 : 0 < m) (m1 : m < 2147483648) : Ca d k 256 [.ref 382, .int (i32 m)] (E T σ) Q = Q (.inl (some (.int (i32 (us (lcg (σ 1223 382 0)) 16 % m))))) (E T (upA σ 1223 382 fun _ => lcg (σ 1223 382 0))) := by
  have h0 := ob_md
  have hu := us_16 (1103515245 * σ 1223 382 0 + 12345)
  rw [n256 _ _ _ _ _ _ _ h0]
  simp (disch := (first | assumption | omega | exact Nat.le_of_ble_eq_true rfl | rfl)) only [w256_0, w256_1, w256_4, w256_5, w256_8, w256_9, w256_12, w256_13, w256_16, w256_17, w256_20, w256_22, w256_23, w256_24, w256_25, Ko_n, Ko_v, vX_i, vX_r, vX_l, vX_j, reduceIte, upA_s, hu.1, Int.lt_trans hu.2 (show (65536 : Int) < 2147483648 by omega)]
  rfl
