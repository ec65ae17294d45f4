/-! ===== the class reads a line ===== -/
theorem tpl_l0 {σ : St} {K : Int → Int} {v : Int} (h : tpl σ 77 K) : tpl (upA σ 400 77 fun _ => v) 77 (fu K 0 v) := by
  obtain ⟨p0, p1, p2, p3, p4, p5, p6, p7, p8, p9, p10⟩ := h
  refine ⟨?_, ?_, ?_, ?_, ?_, ?_, ?_, fun w w0 w1 => ?_, fun w e w0 w1 e0 e1 => ?_, ?_, fun i i0 i1 => ?_⟩
  · rw [upA_s, fu_s]
  · rw [upA_t (by omega), fu_n (by omega)]; exact p1
  · rw [upA_t (by omega), fu_n (by omega)]; exact p2
  · rw [upA_t (by omega), fu_n (by omega)]; exact p3
  · rw [upA_t (by omega), fu_n (by omega)]; exact p4
  · rw [upA_t (by omega), fu_n (by omega)]; exact p5
  · rw [upA_t (by omega), fu_n (by omega)]; exact p6
  · rw [upA_t (by omega), fu_n (by omega)]; exact p7 w w0 w1
  · rw [fu_n (by omega)] at e1
    rw [upA_t (by omega), upA_t (by omega), fu_n (by omega), fu_n (by omega)]; exact p8 w e w0 w1 e0 e1
  · rw [fu_n (by omega), fu_n (by omega)]
    unfold geo at p9 ⊢
    rw [upA_t (by omega), upA_t (by omega), upA_t (by omega), upA_t (by omega), upA_t (by omega), upA_t (by omega)]
    exact p9
  · rw [fu_n (by omega)] at i1
    have := p10 i i0 i1
    unfold cdK at this ⊢
    rw [upA_t (by omega), fu_n (by omega)]
    exact this
theorem tpl_l4 {σ : St} {K : Int → Int} {v : Int} (h : tpl σ 77 K) : tpl (upA σ 403 77 fun _ => v) 77 (fu K 4 v) := by
  obtain ⟨p0, p1, p2, p3, p4, p5, p6, p7, p8, p9, p10⟩ := h
  refine ⟨?_, ?_, ?_, ?_, ?_, ?_, ?_, fun w w0 w1 => ?_, fun w e w0 w1 e0 e1 => ?_, ?_, fun i i0 i1 => ?_⟩
  · rw [upA_t (by omega), fu_n (by omega)]; exact p0
  · rw [upA_t (by omega), fu_n (by omega)]; exact p1
  · rw [upA_t (by omega), fu_n (by omega)]; exact p2
  · rw [upA_t (by omega), fu_n (by omega)]; exact p3
  · rw [upA_s, fu_s]
  · rw [upA_t (by omega), fu_n (by omega)]; exact p5
  · rw [upA_t (by omega), fu_n (by omega)]; exact p6
  · rw [upA_t (by omega), fu_n (by omega)]; exact p7 w w0 w1
  · rw [fu_n (by omega)] at e1
    rw [upA_t (by omega), upA_t (by omega), fu_n (by omega), fu_n (by omega)]; exact p8 w e w0 w1 e0 e1
  · rw [fu_n (by omega), fu_n (by omega)]
    unfold geo at p9 ⊢
    rw [upA_t (by omega), upA_t (by omega), upA_t (by omega), upA_t (by omega), upA_t (by omega), upA_t (by omega)]
    exact p9
  · rw [fu_n (by omega)] at i1
    have := p10 i i0 i1
    unfold cdK at this ⊢
    rw [upA_t (by omega), fu_n (by omega)]
    exact this
theorem tsc_cgK {σ : St} {K K' : Int → Int} (h3 : K 3 ≤ 5) (hk : ∀ j, (j = 3 ∨ (7 ≤ j ∧ j < 92)) → K' j = K j) (h : tsc σ 84 K 7) : tsc σ 84 K' 7 := by
  rw [tsc_W] at h ⊢
  obtain ⟨s1, s2, s3, s4, s5⟩ := h
  refine ⟨fun k k0 k1 => ?_, fun w w0 w1 => ?_, ?_, ?_, ?_⟩
  · rw [hk (7 + k) (by omega), hk (43 + k) (by omega)]; exact s1 k k0 k1
  · rw [hk 3 (by omega)] at w1
    rw [hk (79 + w) (by omega), hk (84 + w) (by omega)]; exact s2 w w0 w1
  · rw [hk 89 (by omega)]; exact s3
  · rw [hk 90 (by omega)]; exact s4
  · rw [hk 91 (by omega)]; exact s5
/-- what the law's steps keep -/
theorem Dc_L {n : Int} {σ τ : St} {s s' : Ps} (h : Dc σ s) (hk5 : 0 ≤ pK s 5) (hT : tW (pK s)) (hl : Lo n 0 s s') (hf : flt s' = 0 → flt s = 0) (hd : lD τ s') (hr : fL σ τ) : Dc τ s' := by
  obtain ⟨a1, a2, a3, a4, a5, a6⟩ := h
  have q7 : ∀ t, τ t 77 = σ t 77 := fun t => hr t 77 (by omega) (by omega)
  have q8 : ∀ t, τ t 84 = σ t 84 := fun t => hr t 84 (by omega) (by omega)
  refine ⟨by rw [q7]; exact a1, by rw [q7]; exact a2, by rw [q7]; exact a3, hd.1, by rw [q7]; exact a5, fun e => ?_⟩
  obtain ⟨hp, hs⟩ := a6 (hf e)
  have d2 := hd.2 e
  have o : ∀ j, j ≠ 5 → j < 988 → pK s' j = pK s j := fun j h5 hj => hl.2.2.2.1 j h5 (by omega)
  obtain ⟨p0, p1, p2, p3, p4, p5, p6, p7, p8, p9, p10⟩ := hp
  refine ⟨⟨?_, ?_, ?_, ?_, ?_, d2.1, ?_, fun w w0 w1 => ?_, fun w x w0 w1 e0 e1 => ?_, ?_, fun i i0 i1 => d2.2 i i0 i1⟩, tsc_cgK hT.2.2.1.2 (fun j hj => o j (by omega) (by omega)) (tsc_o q8 hs)⟩
  · rw [q7, o 0 (by omega) (by omega)]; exact p0
  · rw [q7, o 1 (by omega) (by omega)]; exact p1
  · rw [q7, o 2 (by omega) (by omega)]; exact p2
  · rw [q7, o 3 (by omega) (by omega)]; exact p3
  · rw [q7, o 4 (by omega) (by omega)]; exact p4
  · rw [q7, o 92 (by omega) (by omega)]; exact p6
  · rw [q7, o (93 + w) (by omega) (by omega)]; exact p7 w w0 w1
  · rw [o (93 + w) (by omega) (by omega)] at e1
    have := hT.2.2.2 w w0 w1
    rw [q7, q7, o (98 + 4 * w + x) (by omega) (by omega), o (118 + 4 * w + x) (by omega) (by omega)]; exact p8 w x w0 w1 e0 e1
  · rw [o 1 (by omega) (by omega), o 2 (by omega) (by omega)]
    unfold geo at p9 ⊢
    rw [q7, q7, q7, q7, q7, q7]
    exact p9
theorem wd_ex {f : Int → Int} {s : Ps} (h : isWd f 11 s = true) : isWd f 21 s = false := by
  cases e : isWd f 21 s with
  | false => rfl
  | true =>
    exfalso
    unfold isWd at h e
    rw [Bool.and_eq_true, decide_eq_true_eq] at h e
    have h1 := h.1.2.2
    have h2 := e.1.2.2
    rw [h1] at h2
    have : (vmByt 11).length ≠ (vmByt 21).length := by decide +kernel
    omega
/-- the line's end -/
theorem c50e {d : Nat} {n : Int} {f : Int → Int} {T : Tt} {σ τ : St} {s : Ps} {Q : vmO → vmH → Prop} (hR : Rc f n τ s) (hD : Dc τ s) (hf : tpOk f n) (hs : pO n s) (hT : tW (pK s)) (hw : fW σ τ) (hQ : ∀ τ, Rc f n τ (stpL f n s) → Dc τ (stpL f n s) → fW σ τ → Q (.inl none) (E T τ)) : Wp (d + 34) M_X5_readLine 123 [.ref 75] [] (E T τ) Q := by
  have h0 := ob_rd
  have hp := ob_fp
  have m := Mv_mu (c := 59) hf hs
  simp (disch := (first | assumption | omega | exact Nat.le_of_ble_eq_true rfl | rfl)) only [w50_0, w50_1, w50_3, w50_6, w50_9, w50_10, w50_13, w50_16, w50_17, w50_19, w50_22, w50_25, w50_26, w50_29, w50_32, w50_33, w50_35, w50_38, w50_41, w50_42, w50_45, w50_48, w50_49, w50_51, w50_54, w50_57, w50_58, w50_61, w50_64, w50_65, w50_67, w50_70, w50_73, w50_74, w50_77, w50_80, w50_81, w50_84, w50_85, w50_86, w50_89, w50_92, w50_93, w50_95, w50_98, w50_101, w50_102, w50_105, w50_106, w50_107, w50_109, w50_112, w50_115, w50_118, w50_119, w50_120, w50_123, w50_124, w50_126, w50_129, w50_130, w50_133, w50_134, w50_137, w50_138, w50_139, w50_142, Ko_n, Ko_v, vX_i, vX_r, vX_l, vX_j, reduceIte]
  refine c46 hR hf hs (by omega) (by omega) fun ρ h1 h2 => ?_
  simp (disch := (first | assumption | omega | exact Nat.le_of_ble_eq_true rfl | rfl)) only [w50_0, w50_1, w50_3, w50_6, w50_9, w50_10, w50_13, w50_16, w50_17, w50_19, w50_22, w50_25, w50_26, w50_29, w50_32, w50_33, w50_35, w50_38, w50_41, w50_42, w50_45, w50_48, w50_49, w50_51, w50_54, w50_57, w50_58, w50_61, w50_64, w50_65, w50_67, w50_70, w50_73, w50_74, w50_77, w50_80, w50_81, w50_84, w50_85, w50_86, w50_89, w50_92, w50_93, w50_95, w50_98, w50_101, w50_102, w50_105, w50_106, w50_107, w50_109, w50_112, w50_115, w50_118, w50_119, w50_120, w50_123, w50_124, w50_126, w50_129, w50_130, w50_133, w50_134, w50_137, w50_138, w50_139, w50_142, Ko_n, Ko_v, vX_i, vX_r, vX_l, vX_j, reduceIte, Nat.reduceAdd]
  unfold stpL at hQ
  dsimp only at hQ
  have fr : fW σ (upA ρ 400 77 fun _ => ρ 400 77 0 + 1) := fun t o a b c dd => by rw [upA_o b, fR_W h2 t o a b c dd]; exact hw t o a b c dd
  have hDr : Dc ρ (muS f n 59 s) := Dc_R hD h2 (fun z => by
    by_cases e4 : flt s = 0
    · exact e4
    · rw [(muS_f hs (by omega) e4).1] at z; exact z) m.2.1
  have hRr : ∀ K, Rc f n (upA ρ 400 77 fun _ => ρ 400 77 0 + 1) (stK2 K (muS f n 59 s)) := fun K => Rc_o (s := stK2 K (muS f n 59 s)) h1 (fun t => upA_o (by omega)) (upA_o (by omega))
  generalize muS f n 59 s = u at *
  obtain ⟨a1, a2, a3, a4, a5, a6⟩ := hDr
  have q : ∀ t, t ≠ 400 → (upA ρ 400 77 fun _ => ρ 400 77 0 + 1) t 77 = ρ t 77 := fun t ht => upA_t ht
  have q8 : ∀ t, (upA ρ 400 77 fun _ => ρ 400 77 0 + 1) t 81 = ρ t 81 := fun t => upA_o (by omega)
  by_cases e : pB u = 0
  · rw [if_pos e] at hQ
    refine hQ _ (hRr _) ⟨by rw [q _ (by omega)]; exact a1, by rw [q _ (by omega)]; exact a2, by rw [q _ (by omega)]; exact a3, by rw [q8]; exact a4, by rw [q _ (by omega)]; exact a5, fun z => ?_⟩ fr
    have a := a6 z
    have e0 := a.1.1
    show tpl (upA ρ 400 77 fun _ => ρ 400 77 0 + 1) 77 (fu (pK u) 0 (pK u 0 + 1)) ∧ tsc (upA ρ 400 77 fun _ => ρ 400 77 0 + 1) 84 (fu (pK u) 0 (pK u 0 + 1)) 7
    rw [e0]
    exact ⟨tpl_l0 a.1, tsc_cgK (by rw [m.2.1]; exact hT.2.2.1.2) (fun j hj => fu_n (by omega)) (tsc_o (fun t => upA_o (by omega)) a.2)⟩
  · rw [if_neg e] at hQ
    exact hQ _ (hRr (pK u)) ⟨by rw [q _ (by omega)]; exact a1, by rw [q _ (by omega)]; exact a2, by rw [q _ (by omega)]; exact a3, by rw [q8]; exact a4, by rw [q _ (by omega)]; exact a5, fun z => absurd (flt_0 z).1 e⟩ fr
theorem c50 {d : Nat} {k n : Int} {f : Int → Int} {T : Tt} {σ σ2 : St} {s : Ps} {Q : vmO → vmH → Prop} (hF : σ2 1205 382 = f) (hn : σ2 1207 382 0 = n) (hR : Rc f n σ s) (hD : Dc σ s) (hf : tpOk f n) (h : iL n s) (he : flt s = 0) (hQ : ∀ τ, Rc f n τ (lin f n s) → Dc τ (lin f n s) → fW σ τ → Q (.inl none) (E T τ)) : Ca (d + 34) k 50 [.ref 75] (E T σ) Q := by
  have h0 := ob_rd
  have hp := ob_fp
  have hfl := ob_fl
  have hs := h.1
  have ht := h.2.1.1
  have r := Mv_rd hf hs
  have ir := iL_mv h r
  have hb := (flt_0 he).1
  have hc4 : ∀ j, 0 ≤ j → j < 36 → 0 ≤ pK s (7 + j) ∧ pK s (7 + j) ≤ 4 := fun j j0 j1 => (h.2.1.2.2.2.2.2.1.1 j j0 j1).1
  have jl := lin0_J hF hn hf h
  have e : lin f n s = stpL f n (lin0 f n s) := rfl
  rw [e] at hQ
  have tl : ∀ τ t, t = lin0 f n s → Rc f n τ t → Dc τ t → fW σ τ → Wp (d + 34) M_X5_readLine 123 [.ref 75] [] (E T τ) Q := by
    intro τ t ht h1 h2 h3
    subst ht
    exact c50e h1 h2 hf jl.1.1 jl.1.2.1.1 h3 hQ
  rw [n50 _ _ _ _ _ _ h0]
  simp (disch := (first | assumption | omega | exact Nat.le_of_ble_eq_true rfl | rfl)) only [w50_0, w50_1, w50_3, w50_6, w50_9, w50_10, w50_13, w50_16, w50_17, w50_19, w50_22, w50_25, w50_26, w50_29, w50_32, w50_33, w50_35, w50_38, w50_41, w50_42, w50_45, w50_48, w50_49, w50_51, w50_54, w50_57, w50_58, w50_61, w50_64, w50_65, w50_67, w50_70, w50_73, w50_74, w50_77, w50_80, w50_81, w50_84, w50_85, w50_86, w50_89, w50_92, w50_93, w50_95, w50_98, w50_101, w50_102, w50_105, w50_106, w50_107, w50_109, w50_112, w50_115, w50_118, w50_119, w50_120, Ko_n, Ko_v, vX_i, vX_r, vX_l, vX_j, reduceIte]
  refine c44 (i := 2) rfl hR hf hs (by omega) (fun w τ h1 h2 => ?_) (fun w2 => ?_)
  · simp (disch := (first | assumption | omega | exact Nat.le_of_ble_eq_true rfl | rfl)) only [w50_0, w50_1, w50_3, w50_6, w50_9, w50_10, w50_13, w50_16, w50_17, w50_19, w50_22, w50_25, w50_26, w50_29, w50_32, w50_33, w50_35, w50_38, w50_41, w50_42, w50_45, w50_48, w50_49, w50_51, w50_54, w50_57, w50_58, w50_61, w50_64, w50_65, w50_67, w50_70, w50_73, w50_74, w50_77, w50_80, w50_81, w50_84, w50_85, w50_86, w50_89, w50_92, w50_93, w50_95, w50_98, w50_101, w50_102, w50_105, w50_106, w50_107, w50_109, w50_112, w50_115, w50_118, w50_119, w50_120, Ko_n, Ko_v, vX_i, vX_r, vX_l, vX_j, reduceIte, Int.reduceEq]
    refine c52 h1 (Dc_R hD h2 (fun _ => he) rfl) hf r.1 ir.2.1.1 fun ρ h3 h4 h5 => ?_
    simp (disch := (first | assumption | omega | exact Nat.le_of_ble_eq_true rfl | rfl)) only [w50_0, w50_1, w50_3, w50_6, w50_9, w50_10, w50_13, w50_16, w50_17, w50_19, w50_22, w50_25, w50_26, w50_29, w50_32, w50_33, w50_35, w50_38, w50_41, w50_42, w50_45, w50_48, w50_49, w50_51, w50_54, w50_57, w50_58, w50_61, w50_64, w50_65, w50_67, w50_70, w50_73, w50_74, w50_77, w50_80, w50_81, w50_84, w50_85, w50_86, w50_89, w50_92, w50_93, w50_95, w50_98, w50_101, w50_102, w50_105, w50_106, w50_107, w50_109, w50_112, w50_115, w50_118, w50_119, w50_120, Ko_n, Ko_v, vX_i, vX_r, vX_l, vX_j, reduceIte]
    exact tl ρ _ (by unfold lin0; rw [if_pos w]) h3 h4 (fW_t (fR_W h2) h5)
  · simp (disch := (first | assumption | omega | exact Nat.le_of_ble_eq_true rfl | rfl)) only [w50_0, w50_1, w50_3, w50_6, w50_9, w50_10, w50_13, w50_16, w50_17, w50_19, w50_22, w50_25, w50_26, w50_29, w50_32, w50_33, w50_35, w50_38, w50_41, w50_42, w50_45, w50_48, w50_49, w50_51, w50_54, w50_57, w50_58, w50_61, w50_64, w50_65, w50_67, w50_70, w50_73, w50_74, w50_77, w50_80, w50_81, w50_84, w50_85, w50_86, w50_89, w50_92, w50_93, w50_95, w50_98, w50_101, w50_102, w50_105, w50_106, w50_107, w50_109, w50_112, w50_115, w50_118, w50_119, w50_120, Ko_n, Ko_v, vX_i, vX_r, vX_l, vX_j, reduceIte]
    rw [c42 (i := 6) rfl hR hf hs (by omega)]
    cases w6 : isWd f 6 s with
    | true =>
      simp (disch := (first | assumption | omega | exact Nat.le_of_ble_eq_true rfl | rfl)) only [w50_0, w50_1, w50_3, w50_6, w50_9, w50_10, w50_13, w50_16, w50_17, w50_19, w50_22, w50_25, w50_26, w50_29, w50_32, w50_33, w50_35, w50_38, w50_41, w50_42, w50_45, w50_48, w50_49, w50_51, w50_54, w50_57, w50_58, w50_61, w50_64, w50_65, w50_67, w50_70, w50_73, w50_74, w50_77, w50_80, w50_81, w50_84, w50_85, w50_86, w50_89, w50_92, w50_93, w50_95, w50_98, w50_101, w50_102, w50_105, w50_106, w50_107, w50_109, w50_112, w50_115, w50_118, w50_119, w50_120, Ko_n, Ko_v, vX_i, vX_r, vX_l, vX_j, reduceIte, Int.reduceEq]
      refine c54 hR hD hf hs ht he (isWd_h w6).2 fun ρ h3 h4 h5 => ?_
      simp (disch := (first | assumption | omega | exact Nat.le_of_ble_eq_true rfl | rfl)) only [w50_0, w50_1, w50_3, w50_6, w50_9, w50_10, w50_13, w50_16, w50_17, w50_19, w50_22, w50_25, w50_26, w50_29, w50_32, w50_33, w50_35, w50_38, w50_41, w50_42, w50_45, w50_48, w50_49, w50_51, w50_54, w50_57, w50_58, w50_61, w50_64, w50_65, w50_67, w50_70, w50_73, w50_74, w50_77, w50_80, w50_81, w50_84, w50_85, w50_86, w50_89, w50_92, w50_93, w50_95, w50_98, w50_101, w50_102, w50_105, w50_106, w50_107, w50_109, w50_112, w50_115, w50_118, w50_119, w50_120, Ko_n, Ko_v, vX_i, vX_r, vX_l, vX_j, reduceIte]
      exact tl ρ _ (by unfold lin0; rw [w2, if_neg Bool.false_ne_true, if_pos w6]) h3 h4 h5
    | false =>
      simp (disch := (first | assumption | omega | exact Nat.le_of_ble_eq_true rfl | rfl)) only [w50_0, w50_1, w50_3, w50_6, w50_9, w50_10, w50_13, w50_16, w50_17, w50_19, w50_22, w50_25, w50_26, w50_29, w50_32, w50_33, w50_35, w50_38, w50_41, w50_42, w50_45, w50_48, w50_49, w50_51, w50_54, w50_57, w50_58, w50_61, w50_64, w50_65, w50_67, w50_70, w50_73, w50_74, w50_77, w50_80, w50_81, w50_84, w50_85, w50_86, w50_89, w50_92, w50_93, w50_95, w50_98, w50_101, w50_102, w50_105, w50_106, w50_107, w50_109, w50_112, w50_115, w50_118, w50_119, w50_120, Ko_n, Ko_v, vX_i, vX_r, vX_l, vX_j, reduceIte, Bool.false_eq_true]
      rw [c42 (i := 7) rfl hR hf hs (by omega)]
      cases w7 : isWd f 7 s with
      | true =>
        simp (disch := (first | assumption | omega | exact Nat.le_of_ble_eq_true rfl | rfl)) only [w50_0, w50_1, w50_3, w50_6, w50_9, w50_10, w50_13, w50_16, w50_17, w50_19, w50_22, w50_25, w50_26, w50_29, w50_32, w50_33, w50_35, w50_38, w50_41, w50_42, w50_45, w50_48, w50_49, w50_51, w50_54, w50_57, w50_58, w50_61, w50_64, w50_65, w50_67, w50_70, w50_73, w50_74, w50_77, w50_80, w50_81, w50_84, w50_85, w50_86, w50_89, w50_92, w50_93, w50_95, w50_98, w50_101, w50_102, w50_105, w50_106, w50_107, w50_109, w50_112, w50_115, w50_118, w50_119, w50_120, Ko_n, Ko_v, vX_i, vX_r, vX_l, vX_j, reduceIte, Int.reduceEq]
        refine c55 hR hD hf hs ht hc4 he (isWd_h w7).2 fun ρ h3 h4 h5 => ?_
        simp (disch := (first | assumption | omega | exact Nat.le_of_ble_eq_true rfl | rfl)) only [w50_0, w50_1, w50_3, w50_6, w50_9, w50_10, w50_13, w50_16, w50_17, w50_19, w50_22, w50_25, w50_26, w50_29, w50_32, w50_33, w50_35, w50_38, w50_41, w50_42, w50_45, w50_48, w50_49, w50_51, w50_54, w50_57, w50_58, w50_61, w50_64, w50_65, w50_67, w50_70, w50_73, w50_74, w50_77, w50_80, w50_81, w50_84, w50_85, w50_86, w50_89, w50_92, w50_93, w50_95, w50_98, w50_101, w50_102, w50_105, w50_106, w50_107, w50_109, w50_112, w50_115, w50_118, w50_119, w50_120, Ko_n, Ko_v, vX_i, vX_r, vX_l, vX_j, reduceIte]
        exact tl ρ _ (by unfold lin0; rw [w2, if_neg Bool.false_ne_true, w6, if_neg Bool.false_ne_true, if_pos w7]) h3 h4 h5
      | false =>
        simp (disch := (first | assumption | omega | exact Nat.le_of_ble_eq_true rfl | rfl)) only [w50_0, w50_1, w50_3, w50_6, w50_9, w50_10, w50_13, w50_16, w50_17, w50_19, w50_22, w50_25, w50_26, w50_29, w50_32, w50_33, w50_35, w50_38, w50_41, w50_42, w50_45, w50_48, w50_49, w50_51, w50_54, w50_57, w50_58, w50_61, w50_64, w50_65, w50_67, w50_70, w50_73, w50_74, w50_77, w50_80, w50_81, w50_84, w50_85, w50_86, w50_89, w50_92, w50_93, w50_95, w50_98, w50_101, w50_102, w50_105, w50_106, w50_107, w50_109, w50_112, w50_115, w50_118, w50_119, w50_120, Ko_n, Ko_v, vX_i, vX_r, vX_l, vX_j, reduceIte, Bool.false_eq_true]
        refine c44 (i := 10) rfl hR hf hs (by omega) (fun w τ h1 h2 => ?_) (fun w10 => ?_)
        · simp (disch := (first | assumption | omega | exact Nat.le_of_ble_eq_true rfl | rfl)) only [w50_0, w50_1, w50_3, w50_6, w50_9, w50_10, w50_13, w50_16, w50_17, w50_19, w50_22, w50_25, w50_26, w50_29, w50_32, w50_33, w50_35, w50_38, w50_41, w50_42, w50_45, w50_48, w50_49, w50_51, w50_54, w50_57, w50_58, w50_61, w50_64, w50_65, w50_67, w50_70, w50_73, w50_74, w50_77, w50_80, w50_81, w50_84, w50_85, w50_86, w50_89, w50_92, w50_93, w50_95, w50_98, w50_101, w50_102, w50_105, w50_106, w50_107, w50_109, w50_112, w50_115, w50_118, w50_119, w50_120, Ko_n, Ko_v, vX_i, vX_r, vX_l, vX_j, reduceIte, Int.reduceEq]
          refine c56 h1 (Dc_R hD h2 (fun _ => he) rfl) hf r.1 ir.2.1.1 fun ρ h3 h4 h5 => ?_
          simp (disch := (first | assumption | omega | exact Nat.le_of_ble_eq_true rfl | rfl)) only [w50_0, w50_1, w50_3, w50_6, w50_9, w50_10, w50_13, w50_16, w50_17, w50_19, w50_22, w50_25, w50_26, w50_29, w50_32, w50_33, w50_35, w50_38, w50_41, w50_42, w50_45, w50_48, w50_49, w50_51, w50_54, w50_57, w50_58, w50_61, w50_64, w50_65, w50_67, w50_70, w50_73, w50_74, w50_77, w50_80, w50_81, w50_84, w50_85, w50_86, w50_89, w50_92, w50_93, w50_95, w50_98, w50_101, w50_102, w50_105, w50_106, w50_107, w50_109, w50_112, w50_115, w50_118, w50_119, w50_120, Ko_n, Ko_v, vX_i, vX_r, vX_l, vX_j, reduceIte]
          exact tl ρ _ (by unfold lin0; rw [w2, if_neg Bool.false_ne_true, w6, if_neg Bool.false_ne_true, w7, if_neg Bool.false_ne_true, if_pos w]) h3 h4 (fW_t (fR_W h2) h5)
        · simp (disch := (first | assumption | omega | exact Nat.le_of_ble_eq_true rfl | rfl)) only [w50_0, w50_1, w50_3, w50_6, w50_9, w50_10, w50_13, w50_16, w50_17, w50_19, w50_22, w50_25, w50_26, w50_29, w50_32, w50_33, w50_35, w50_38, w50_41, w50_42, w50_45, w50_48, w50_49, w50_51, w50_54, w50_57, w50_58, w50_61, w50_64, w50_65, w50_67, w50_70, w50_73, w50_74, w50_77, w50_80, w50_81, w50_84, w50_85, w50_86, w50_89, w50_92, w50_93, w50_95, w50_98, w50_101, w50_102, w50_105, w50_106, w50_107, w50_109, w50_112, w50_115, w50_118, w50_119, w50_120, Ko_n, Ko_v, vX_i, vX_r, vX_l, vX_j, reduceIte]
          refine c44 (i := 11) rfl hR hf hs (by omega) (fun w τ h1 h2 => ?_) (fun w11 => ?_)
          · have g := gr_J hf h
            have hL := (truD_C (T := T) hf).2 _ g.1.1 g.1.2.2.1 g.1.2.2.2 (fun z => by omega)
            have hDt := Dc_R (s' := rdOn f n s) hD h2 (fun _ => he) rfl
            simp (disch := (first | assumption | omega | exact Nat.le_of_ble_eq_true rfl | rfl)) only [w50_0, w50_1, w50_3, w50_6, w50_9, w50_10, w50_13, w50_16, w50_17, w50_19, w50_22, w50_25, w50_26, w50_29, w50_32, w50_33, w50_35, w50_38, w50_41, w50_42, w50_45, w50_48, w50_49, w50_51, w50_54, w50_57, w50_58, w50_61, w50_64, w50_65, w50_67, w50_70, w50_73, w50_74, w50_77, w50_80, w50_81, w50_84, w50_85, w50_86, w50_89, w50_92, w50_93, w50_95, w50_98, w50_101, w50_102, w50_105, w50_106, w50_107, w50_109, w50_112, w50_115, w50_118, w50_119, w50_120, Ko_n, Ko_v, vX_i, vX_r, vX_l, vX_j, reduceIte, Int.reduceEq, Nat.reduceAdd]
            -- the law is empty
            have hD0 : Dc (upA τ 301 81 fun _ => 0) (stK2 (fu (pK s) 5 0) (rdOn f n s)) := by
              obtain ⟨a1, a2, a3, a4, a5, a6⟩ := hDt
              have q7 : ∀ t, (upA τ 301 81 fun _ => 0) t 77 = τ t 77 := fun t => upA_o (by omega)
              refine ⟨by rw [q7]; exact a1, by rw [q7]; exact a2, by rw [q7]; exact a3, by rw [upA_s]; omega, by rw [q7]; exact a5, fun z => ?_⟩
              obtain ⟨⟨p0, p1, p2, p3, p4, p5, p6, p7, p8, p9, p10⟩, hsx⟩ := a6 z
              refine ⟨⟨?_, ?_, ?_, ?_, ?_, ?_, ?_, fun w w0 w1 => ?_, fun w x w0 w1 e0 e1 => ?_, ?_, fun i i0 i1 => ?_⟩, tsc_cgK ht.2.2.1.2 (fun j hj => fu_n (by omega)) (tsc_o (fun t => upA_o (by omega)) hsx)⟩
              · rw [q7]; exact p0
              · rw [q7]; exact p1
              · rw [q7]; exact p2
              · rw [q7]; exact p3
              · rw [q7]; exact p4
              · exact congrFun upA_s 0
              · rw [q7]; show τ 405 77 0 = fu (pK s) 5 0 92; rw [fu_n (by omega)]; exact p6
              · rw [q7]; show τ 406 77 w = fu (pK s) 5 0 (93 + w); rw [fu_n (by omega)]; exact p7 w w0 w1
              · have e1' : x < pK s (93 + w) := by
                  have : fu (pK s) 5 0 (93 + w) = pK s (93 + w) := fu_n (by omega)
                  rw [← this]; exact e1
                rw [q7, q7]
                show τ 407 77 (4 * w + x) = fu (pK s) 5 0 (98 + 4 * w + x) ∧ τ 408 77 (4 * w + x) = fu (pK s) 5 0 (118 + 4 * w + x)
                rw [fu_n (by omega), fu_n (by omega)]
                exact p8 w x w0 w1 e0 e1'
              · unfold geo at p9 ⊢
                rw [q7, q7, q7, q7, q7, q7]
                exact p9
              · have : fu (pK s) 5 0 5 = 0 := fu_s
                have i1' : i < fu (pK s) 5 0 5 := i1
                omega
            have hl0 : lD (upA τ 301 81 fun _ => 0) (stK2 (fu (pK s) 5 0) (rdOn f n s)) := ⟨by rw [upA_s]; omega, fun z => ⟨by rw [upA_s]; show (0 : Int) = fu (pK s) 5 0 5; rw [fu_s], fun i i0 i1 => by
              have : fu (pK s) 5 0 5 = 0 := fu_s
              have i1' : i < fu (pK s) 5 0 5 := i1
              omega⟩⟩
            have hR0 : Rc f n (upA τ 301 81 fun _ => 0) (stK2 (fu (pK s) 5 0) (rdOn f n s)) := Rc_o (s := stK2 (fu (pK s) 5 0) (rdOn f n s)) h1 (fun t => upA_o (by omega)) (upA_o (by omega))
            refine (truD_C (T := T) hf).1 d 1 _ _ _ hR0 hl0 g.1.1 g.1.2.2.1 g.1.2.2.2 fun ρ h3 h4 h5 => ?_
            simp (disch := (first | assumption | omega | exact Nat.le_of_ble_eq_true rfl | rfl)) only [w50_0, w50_1, w50_3, w50_6, w50_9, w50_10, w50_13, w50_16, w50_17, w50_19, w50_22, w50_25, w50_26, w50_29, w50_32, w50_33, w50_35, w50_38, w50_41, w50_42, w50_45, w50_48, w50_49, w50_51, w50_54, w50_57, w50_58, w50_61, w50_64, w50_65, w50_67, w50_70, w50_73, w50_74, w50_77, w50_80, w50_81, w50_84, w50_85, w50_86, w50_89, w50_92, w50_93, w50_95, w50_98, w50_101, w50_102, w50_105, w50_106, w50_107, w50_109, w50_112, w50_115, w50_118, w50_119, w50_120, Ko_n, Ko_v, vX_i, vX_r, vX_l, vX_j, reduceIte]
            refine tl ρ _ (by unfold lin0; rw [w2, if_neg Bool.false_ne_true, w6, if_neg Bool.false_ne_true, w7, if_neg Bool.false_ne_true, w10, if_neg Bool.false_ne_true, wd_ex w, if_neg Bool.false_ne_true, if_pos w]) h3 ?_ (fun t o a b c dd => by rw [h5 t o a c, upA_o c]; exact h2 t o a)
            refine Dc_L hD0 g.1.2.2.1.1 g.1.2.1.1 hL (fun z => ?_) h4 h5
            by_cases e4 : flt (stK2 (fu (pK s) 5 0) (rdOn f n s)) = 0
            · exact e4
            · rw [((Fo_tr (Fo_unD hf (smD_L hf) 6 (by omega))).2 _ g.1.1 g.1.2.2.1 g.1.2.2.2 e4).1] at z
              exact z
          · simp (disch := (first | assumption | omega | exact Nat.le_of_ble_eq_true rfl | rfl)) only [w50_0, w50_1, w50_3, w50_6, w50_9, w50_10, w50_13, w50_16, w50_17, w50_19, w50_22, w50_25, w50_26, w50_29, w50_32, w50_33, w50_35, w50_38, w50_41, w50_42, w50_45, w50_48, w50_49, w50_51, w50_54, w50_57, w50_58, w50_61, w50_64, w50_65, w50_67, w50_70, w50_73, w50_74, w50_77, w50_80, w50_81, w50_84, w50_85, w50_86, w50_89, w50_92, w50_93, w50_95, w50_98, w50_101, w50_102, w50_105, w50_106, w50_107, w50_109, w50_112, w50_115, w50_118, w50_119, w50_120, Ko_n, Ko_v, vX_i, vX_r, vX_l, vX_j, reduceIte]
            refine c44 (i := 21) rfl hR hf hs (by omega) (fun w τ h1 h2 => ?_) (fun w21 => ?_)
            · simp (disch := (first | assumption | omega | exact Nat.le_of_ble_eq_true rfl | rfl)) only [w50_0, w50_1, w50_3, w50_6, w50_9, w50_10, w50_13, w50_16, w50_17, w50_19, w50_22, w50_25, w50_26, w50_29, w50_32, w50_33, w50_35, w50_38, w50_41, w50_42, w50_45, w50_48, w50_49, w50_51, w50_54, w50_57, w50_58, w50_61, w50_64, w50_65, w50_67, w50_70, w50_73, w50_74, w50_77, w50_80, w50_81, w50_84, w50_85, w50_86, w50_89, w50_92, w50_93, w50_95, w50_98, w50_101, w50_102, w50_105, w50_106, w50_107, w50_109, w50_112, w50_115, w50_118, w50_119, w50_120, Ko_n, Ko_v, vX_i, vX_r, vX_l, vX_j, reduceIte, Int.reduceEq, Nat.reduceAdd]
              refine c48 h1 hf r.1 (by omega) (by omega) (by omega) (by omega) fun ρ v h3 h4 h5 h6 => ?_
              have mv := Mv_nm (lo := 2) (hi := 9) hf r.1
              simp (disch := (first | assumption | omega | exact Nat.le_of_ble_eq_true rfl | rfl)) only [w50_0, w50_1, w50_3, w50_6, w50_9, w50_10, w50_13, w50_16, w50_17, w50_19, w50_22, w50_25, w50_26, w50_29, w50_32, w50_33, w50_35, w50_38, w50_41, w50_42, w50_45, w50_48, w50_49, w50_51, w50_54, w50_57, w50_58, w50_61, w50_64, w50_65, w50_67, w50_70, w50_73, w50_74, w50_77, w50_80, w50_81, w50_84, w50_85, w50_86, w50_89, w50_92, w50_93, w50_95, w50_98, w50_101, w50_102, w50_105, w50_106, w50_107, w50_109, w50_112, w50_115, w50_118, w50_119, w50_120, Ko_n, Ko_v, vX_i, vX_r, vX_l, vX_j, reduceIte, Nat.reduceAdd]
              have hDr : Dc ρ (nmb f n 2 9 (rdOn f n s)).2 := Dc_R hD (fR_t h2 h4) (fun _ => he) (by rw [mv.2.1]; rfl)
              refine tl _ (stK2 (fu (pK (nmb f n 2 9 (rdOn f n s)).2) 4 (nmb f n 2 9 (rdOn f n s)).1) (nmb f n 2 9 (rdOn f n s)).2) (by unfold lin0; rw [w2, if_neg Bool.false_ne_true, w6, if_neg Bool.false_ne_true, w7, if_neg Bool.false_ne_true, w10, if_neg Bool.false_ne_true, if_pos w]) (Rc_o (s := stK2 (fu (pK (nmb f n 2 9 (rdOn f n s)).2) 4 (nmb f n 2 9 (rdOn f n s)).1) (nmb f n 2 9 (rdOn f n s)).2) h3 (fun t => upA_o (by omega)) (upA_o (by omega))) ?_ (fun t o a b c dd => by rw [upA_o b]; exact (fR_t h2 h4) t o a)
              obtain ⟨a1, a2, a3, a4, a5, a6⟩ := hDr
              refine ⟨by rw [upA_t (by omega)]; exact a1, by rw [upA_t (by omega)]; exact a2, by rw [upA_t (by omega)]; exact a3, by rw [upA_o (by omega)]; exact a4, by rw [upA_t (by omega)]; exact a5, fun z => ?_⟩
              have a := a6 z
              rw [h6 z]
              exact ⟨tpl_l4 a.1, tsc_cgK (by rw [mv.2.1]; exact ht.2.2.1.2) (fun j hj => fu_n (by omega)) (tsc_o (fun t => upA_o (by omega)) a.2)⟩
            · simp (disch := (first | assumption | omega | exact Nat.le_of_ble_eq_true rfl | rfl)) only [w50_0, w50_1, w50_3, w50_6, w50_9, w50_10, w50_13, w50_16, w50_17, w50_19, w50_22, w50_25, w50_26, w50_29, w50_32, w50_33, w50_35, w50_38, w50_41, w50_42, w50_45, w50_48, w50_49, w50_51, w50_54, w50_57, w50_58, w50_61, w50_64, w50_65, w50_67, w50_70, w50_73, w50_74, w50_77, w50_80, w50_81, w50_84, w50_85, w50_86, w50_89, w50_92, w50_93, w50_95, w50_98, w50_101, w50_102, w50_105, w50_106, w50_107, w50_109, w50_112, w50_115, w50_118, w50_119, w50_120, Ko_n, Ko_v, vX_i, vX_r, vX_l, vX_j, reduceIte]
              refine c39 hR hs (by omega) fun τ h1 h2 => ?_
              simp (disch := (first | assumption | omega | exact Nat.le_of_ble_eq_true rfl | rfl)) only [w50_0, w50_1, w50_3, w50_6, w50_9, w50_10, w50_13, w50_16, w50_17, w50_19, w50_22, w50_25, w50_26, w50_29, w50_32, w50_33, w50_35, w50_38, w50_41, w50_42, w50_45, w50_48, w50_49, w50_51, w50_54, w50_57, w50_58, w50_61, w50_64, w50_65, w50_67, w50_70, w50_73, w50_74, w50_77, w50_80, w50_81, w50_84, w50_85, w50_86, w50_89, w50_92, w50_93, w50_95, w50_98, w50_101, w50_102, w50_105, w50_106, w50_107, w50_109, w50_112, w50_115, w50_118, w50_119, w50_120, Ko_n, Ko_v, vX_i, vX_r, vX_l, vX_j, reduceIte]
              exact tl τ _ (by unfold lin0; rw [w2, if_neg Bool.false_ne_true, w6, if_neg Bool.false_ne_true, w7, if_neg Bool.false_ne_true, w10, if_neg Bool.false_ne_true, w21, if_neg Bool.false_ne_true, w11, if_neg Bool.false_ne_true]) h1 (Dc_f (Dc_R hD h2 (fun z => z) rfl) (fun z => (blm_O hs (k := 2) (by omega) (by omega)).2 (flt_0 z).1)) (fR_W h2)
