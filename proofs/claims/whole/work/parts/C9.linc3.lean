/-! ===== the class reads lines: errands, a line ===== -/
theorem Dc_er {σ : St} {s t : Ps} {w c b : Int} (h : Dc σ s) (h0 : flt s = 0) (hT : tW (pK s)) (w0 : 0 ≤ w) (w1 : w < 5) (h4 : pK s (93 + w) < 4) (hk : pK t = erS (pK s) w c b) : Dc (plE σ 77 w c b) t := by
  obtain ⟨a1, a2, a3, a4, a5, a6⟩ := h
  obtain ⟨hp, hs⟩ := a6 h0
  have q := hT.2.2.2 w w0 w1
  have o7 : ∀ t, t ≠ 406 → t ≠ 407 → t ≠ 408 → plE σ 77 w c b t 77 = σ t 77 := fun t h6 h7 h8 => by unfold plE; rw [upA_t h6, upA_t h8, upA_t h7]
  have oo7 : ∀ t o, o ≠ 77 → plE σ 77 w c b t o = σ t o := fun t o ho => by unfold plE; rw [upA_o ho, upA_o ho, upA_o ho]
  have e6w := hp.2.2.2.2.2.2.2.1 w w0 w1
  have e6 : plE σ 77 w c b 406 77 = fu (σ 406 77) w (pK s (93 + w) + 1) := by unfold plE; rw [upA_s, e6w]
  have e7 : plE σ 77 w c b 407 77 = fu (σ 407 77) (4 * w + pK s (93 + w)) c := by unfold plE; rw [upA_t (by omega), upA_t (by omega), upA_s, e6w]
  have e8 : plE σ 77 w c b 408 77 = fu (σ 408 77) (4 * w + pK s (93 + w)) b := by unfold plE; rw [upA_t (by omega), upA_s, e6w]
  have o : ∀ j, j ≠ 98 + 4 * w + pK s (93 + w) → j ≠ 118 + 4 * w + pK s (93 + w) → j ≠ 93 + w → erS (pK s) w c b j = pK s j := fun j h1 h2 h3 => by unfold erS; rw [fu_n h3, fu_n h2, fu_n h1]
  have qw : erS (pK s) w c b (93 + w) = pK s (93 + w) + 1 := fu_s
  refine ⟨by rw [o7 _ (by omega) (by omega) (by omega)]; exact a1, by rw [o7 _ (by omega) (by omega) (by omega)]; exact a2, by rw [o7 _ (by omega) (by omega) (by omega)]; exact a3, by rw [oo7 _ _ (by omega)]; exact a4, by rw [o7 _ (by omega) (by omega) (by omega)]; exact a5, fun _ => ?_⟩
  rw [hk]
  obtain ⟨p0, p1, p2, p3, p4, p5, p6, p7, p8, p9, p10⟩ := hp
  refine ⟨⟨?_, ?_, ?_, ?_, ?_, ?_, ?_, fun v v0 v1 => ?_, fun v e v0 v1 x0 x1 => ?_, ?_, fun i i0 i1 => ?_⟩, ?_⟩
  · rw [o7 _ (by omega) (by omega) (by omega), o 0 (by omega) (by omega) (by omega)]; exact p0
  · rw [o7 _ (by omega) (by omega) (by omega), o 1 (by omega) (by omega) (by omega)]; exact p1
  · rw [o7 _ (by omega) (by omega) (by omega), o 2 (by omega) (by omega) (by omega)]; exact p2
  · rw [o7 _ (by omega) (by omega) (by omega), o 3 (by omega) (by omega) (by omega)]; exact p3
  · rw [o7 _ (by omega) (by omega) (by omega), o 4 (by omega) (by omega) (by omega)]; exact p4
  · rw [oo7 _ _ (by omega), o 5 (by omega) (by omega) (by omega)]; exact p5
  · rw [o7 _ (by omega) (by omega) (by omega), o 92 (by omega) (by omega) (by omega)]; exact p6
  · rw [e6]
    by_cases e : v = w
    · rw [e, fu_s, qw]
    · rw [fu_n e, o (93 + v) (by omega) (by omega) (by omega)]; exact p7 v v0 v1
  · rw [e7, e8]
    by_cases e2 : v = w
    · subst e2
      rw [qw] at x1
      by_cases e3 : e = pK s (93 + v)
      · subst e3
        rw [fu_s, fu_s]
        unfold erS
        rw [fu_n (by omega), fu_n (by omega), fu_s, fu_n (by omega), fu_s]
        exact ⟨rfl, rfl⟩
      · rw [fu_n (by omega), fu_n (by omega), o (98 + 4 * v + e) (by omega) (by omega) (by omega), o (118 + 4 * v + e) (by omega) (by omega) (by omega)]
        exact p8 v e v0 v1 x0 (by omega)
    · rw [o (93 + v) (by omega) (by omega) (by omega)] at x1
      have q5 := hT.2.2.2 v v0 v1
      rw [fu_n (by omega), fu_n (by omega), o (98 + 4 * v + e) (by omega) (by omega) (by omega), o (118 + 4 * v + e) (by omega) (by omega) (by omega)]
      exact p8 v e v0 v1 x0 x1
  · rw [o 1 (by omega) (by omega) (by omega), o 2 (by omega) (by omega) (by omega)]
    unfold geo at p9 ⊢
    rw [o7 _ (by omega) (by omega) (by omega), o7 _ (by omega) (by omega) (by omega), o7 _ (by omega) (by omega) (by omega), o7 _ (by omega) (by omega) (by omega), o7 _ (by omega) (by omega) (by omega), o7 _ (by omega) (by omega) (by omega)]
    exact p9
  · rw [o 5 (by omega) (by omega) (by omega)] at i1
    have := p10 i i0 i1
    unfold cdK at this ⊢
    rw [oo7 _ _ (by omega), o (988 + i) (by omega) (by omega) (by omega)]
    exact this
  · have st : stK (pK s) (erS (pK s) w c b) ∨ True := Or.inr trivial
    rw [tsc_W] at hs ⊢
    obtain ⟨s1, s2, s3, s4, s5⟩ := hs
    refine ⟨fun k k0 k1 => ?_, fun v v0 v1 => ?_, ?_, ?_, ?_⟩
    · rw [oo7 _ _ (by omega), oo7 _ _ (by omega), o (7 + k) (by omega) (by omega) (by omega), o (43 + k) (by omega) (by omega) (by omega)]
      exact s1 k k0 k1
    · rw [o 3 (by omega) (by omega) (by omega)] at v1
      have := hT.2.2.1
      rw [oo7 _ _ (by omega), oo7 _ _ (by omega), o (79 + v) (by omega) (by omega) (by omega), o (84 + v) (by omega) (by omega) (by omega)]
      exact s2 v v0 v1
    · rw [oo7 _ _ (by omega), o 89 (by omega) (by omega) (by omega)]; exact s3
    · rw [oo7 _ _ (by omega), o 90 (by omega) (by omega) (by omega)]; exact s4
    · rw [oo7 _ _ (by omega), o 91 (by omega) (by omega) (by omega)]; exact s5
/-- an errand's rest -/
def erE (f : Int → Int) (n : Int) (w : Int × Ps) : Ps :=
  let c := celP f n w.2
  let b := nmb f n 0 999 c.2
  if pB b.2 = 0 then stK2 (erS (pK b.2) w.1 c.1 b.1) b.2 else b.2
theorem cel_f {f : Int → Int} {n : Int} {s : Ps} (hf : tpOk f n) (hs : pO n s) (h : flt s ≠ 0) : flt (celP f n s).2 = flt s ∧ fpl (celP f n s).2 = fpl s := by
  have h1 := nmb_f (f := f) (lo := 0) (hi := pK s 1 - 1) hs h
  have m := Mv_nm (f := f) (lo := 0) (hi := pK s 1 - 1) hf hs
  have h2 := nmb_f (f := f) (lo := 0) (hi := pK s 2 - 1) m.1 (by rw [h1.1]; exact h)
  exact ⟨by show flt (nmb f n 0 (pK s 2 - 1) (nmb f n 0 (pK s 1 - 1) s).2).2 = _; rw [h2.1, h1.1], by show fpl (nmb f n 0 (pK s 2 - 1) (nmb f n 0 (pK s 1 - 1) s).2).2 = _; rw [h2.2, h1.2]⟩
theorem erE_f {f : Int → Int} {n : Int} {w : Int × Ps} (hf : tpOk f n) (hs : pO n w.2) (ht : tW (pK w.2)) (h : flt w.2 ≠ 0) : flt (erE f n w) = flt w.2 ∧ fpl (erE f n w) = fpl w.2 := by
  have h1 := cel_f hf hs h
  have hc := cel_in hf hs ht
  have h2 := nmb_f (f := f) (lo := 0) (hi := 999) hc.1.1 (by rw [h1.1]; exact h)
  unfold erE
  dsimp only
  rw [← h1.1, ← h1.2, ← h2.1, ← h2.2]
  split
  · exact ⟨rfl, rfl⟩
  · exact ⟨rfl, rfl⟩
theorem c56 {d : Nat} {k n : Int} {f : Int → Int} {T : Tt} {σ : St} {s : Ps} {Q : vmO → vmH → Prop} (hR : Rc f n σ s) (hD : Dc σ s) (hf : tpOk f n) (hs : pO n s) (ht : tW (pK s)) (hQ : ∀ τ, Rc f n τ (ern f n s) → Dc τ (ern f n s) → fW σ τ → Q (.inl none) (E T τ)) : Ca (d + 7) k 56 [.ref 75] (E T σ) Q := by
  have h0 := ob_rd
  have hp := ob_fp
  have hsc := ob_fs
  have hd3 := hD.2.2.1
  have e3 := ht.2.2.1
  have e4 := ht.2.2.2
  have hv := hs.2.2.2.1
  rw [n56 _ _ _ _ _ _ h0]
  have hq : ern f n s = erE f n (nmb f n 0 (pK s 3 - 1) (if pB s = 0 ∧ pT s = 2 ∧ pV s < pK s 3 ∧ pK s (93 + pV s) = 4 then blm 4 s else s)) := rfl
  rw [hq] at hQ
  simp (disch := (first | assumption | omega | exact Nat.le_of_ble_eq_true rfl | rfl)) only [w56_0, w56_1, w56_2, w56_3, w56_6, w56_9, w56_10, w56_11, w56_14, w56_15, w56_16, w56_19, w56_22, w56_23, w56_24, w56_27, w56_30, w56_31, w56_32, w56_33, w56_36, w56_37, w56_38, w56_41, w56_42, w56_43, w56_46, w56_47, w56_50, w56_51, w56_52, w56_53, w56_56, w56_59, w56_60, w56_61, w56_64, w56_67, w56_68, w56_71, w56_72, w56_73, w56_74, w56_77, Ko_n, Ko_v, vX_i, vX_r, vX_l, vX_j, reduceIte, Nat.reduceAdd]
  refine c47x (hi := pK s 3 - 1) hR hs (fun z => by rw [(hD.2.2.2.2.2 z).1.2.2.2.1]) (by omega) (by omega) (by omega) (by omega) fun τ w h1 h2 h3 h4 => ?_
  have hO := lkN_O (lo := 0) (hi := pK s 3 - 1) hs
  have hfi := flt_in hO
  by_cases e6 : flt (lkN 0 (pK s 3 - 1) s) = 0
  · have l0 := lkN_0 hs (flt_0 e6).1
    have efs : flt s = 0 := by rw [← l0.1]; exact e6
    rw [l0.1] at h1
    have hw := h4 e6
    subst hw
    obtain ⟨tp, ts⟩ := hD.2.2.2.2.2 efs
    have q := e4 (pV s) (by omega) (by omega)
    have t6 : τ 406 77 = σ 406 77 := h2 406 77 (by omega)
    have hw6 := tp.2.2.2.2.2.2.2.1 (pV s) (by omega) (by omega)
    by_cases e7 : pK s (93 + pV s) = 4
    · rw [if_pos ⟨l0.2.1, l0.2.2.1, by omega, e7⟩] at hQ
      simp (disch := (first | assumption | omega | exact Nat.le_of_ble_eq_true rfl | rfl)) only [w56_0, w56_1, w56_2, w56_3, w56_6, w56_9, w56_10, w56_11, w56_14, w56_15, w56_16, w56_19, w56_22, w56_23, w56_24, w56_27, w56_30, w56_31, w56_32, w56_33, w56_36, w56_37, w56_38, w56_41, w56_42, w56_43, w56_46, w56_47, w56_50, w56_51, w56_52, w56_53, w56_56, w56_59, w56_60, w56_61, w56_64, w56_67, w56_68, w56_71, w56_72, w56_73, w56_74, w56_77, Ko_n, Ko_v, vX_i, vX_r, vX_l, vX_j, reduceIte, h1.2.2.2.2.2.1, efs, Nat.reduceAdd, t6, hw6, e7, show ¬ (4 : Int) < 4 by omega]
      have hB := blm_O hs (k := 4) (by omega) (by omega)
      refine c39 h1 hs (by omega) fun χ h9 h10 => ?_
      simp (disch := (first | assumption | omega | exact Nat.le_of_ble_eq_true rfl | rfl)) only [w56_0, w56_1, w56_2, w56_3, w56_6, w56_9, w56_10, w56_11, w56_14, w56_15, w56_16, w56_19, w56_22, w56_23, w56_24, w56_27, w56_30, w56_31, w56_32, w56_33, w56_36, w56_37, w56_38, w56_41, w56_42, w56_43, w56_46, w56_47, w56_50, w56_51, w56_52, w56_53, w56_56, w56_59, w56_60, w56_61, w56_64, w56_67, w56_68, w56_71, w56_72, w56_73, w56_74, w56_77, Ko_n, Ko_v, vX_i, vX_r, vX_l, vX_j, reduceIte]
      have z1 : flt (blm 4 s) ≠ 0 := fun z => hB.2 (flt_0 z).1
      have z2 := nmb_f (f := f) (lo := 0) (hi := pK s 3 - 1) hB.1 z1
      have mB := Mv_t (Mv_bl (k := 4) hs (by omega) (by omega)) (Mv_nm (lo := 0) (hi := pK s 3 - 1) hf hB.1)
      have z3 := erE_f (w := nmb f n 0 (pK s 3 - 1) (blm 4 s)) hf mB.1 (by rw [mB.2.1]; exact ht) (by rw [z2.1]; exact z1)
      exact hQ χ (Rc_f h9 z1 (by rw [z3.1, z2.1]) (by rw [z3.2, z2.2])) (Dc_f (Dc_R hD (fR_t h2 h10) (fun z => z) rfl) (by rw [z3.1, z2.1]; exact z1)) (fR_W (fR_t h2 h10))
    · rw [if_neg (fun w => e7 w.2.2.2)] at hQ
      have hy : nmb f n 0 (pK s 3 - 1) s = (pV s, rdOn f n s) := by
        unfold nmb rdO
        rw [l0.1, if_pos l0.2.1, if_pos l0.2.1]
      rw [hy] at hQ
      unfold erE at hQ
      dsimp only at hQ
      simp (disch := (first | assumption | omega | exact Nat.le_of_ble_eq_true rfl | rfl)) only [w56_0, w56_1, w56_2, w56_3, w56_6, w56_9, w56_10, w56_11, w56_14, w56_15, w56_16, w56_19, w56_22, w56_23, w56_24, w56_27, w56_30, w56_31, w56_32, w56_33, w56_36, w56_37, w56_38, w56_41, w56_42, w56_43, w56_46, w56_47, w56_50, w56_51, w56_52, w56_53, w56_56, w56_59, w56_60, w56_61, w56_64, w56_67, w56_68, w56_71, w56_72, w56_73, w56_74, w56_77, Ko_n, Ko_v, vX_i, vX_r, vX_l, vX_j, reduceIte, h1.2.2.2.2.2.1, efs, Nat.reduceAdd, t6, hw6, show pK s (93 + pV s) < 4 by omega]
      refine c40 h1 hf hs efs fun ρ h5 h6 => ?_
      have r := Mv_rd hf hs
      have htr : tW (pK (rdOn f n s)) := ht
      have hDr : Dc ρ (rdOn f n s) := Dc_R hD (fR_t h2 h6) (fun _ => efs) rfl
      have hc := cel_in hf r.1 htr
      simp (disch := (first | assumption | omega | exact Nat.le_of_ble_eq_true rfl | rfl)) only [w56_0, w56_1, w56_2, w56_3, w56_6, w56_9, w56_10, w56_11, w56_14, w56_15, w56_16, w56_19, w56_22, w56_23, w56_24, w56_27, w56_30, w56_31, w56_32, w56_33, w56_36, w56_37, w56_38, w56_41, w56_42, w56_43, w56_46, w56_47, w56_50, w56_51, w56_52, w56_53, w56_56, w56_59, w56_60, w56_61, w56_64, w56_67, w56_68, w56_71, w56_72, w56_73, w56_74, w56_77, Ko_n, Ko_v, vX_i, vX_r, vX_l, vX_j, reduceIte]
      refine c51 h5 hDr hf r.1 htr fun ω c h7 h8 h9 h10 => ?_
      simp (disch := (first | assumption | omega | exact Nat.le_of_ble_eq_true rfl | rfl)) only [w56_0, w56_1, w56_2, w56_3, w56_6, w56_9, w56_10, w56_11, w56_14, w56_15, w56_16, w56_19, w56_22, w56_23, w56_24, w56_27, w56_30, w56_31, w56_32, w56_33, w56_36, w56_37, w56_38, w56_41, w56_42, w56_43, w56_46, w56_47, w56_50, w56_51, w56_52, w56_53, w56_56, w56_59, w56_60, w56_61, w56_64, w56_67, w56_68, w56_71, w56_72, w56_73, w56_74, w56_77, Ko_n, Ko_v, vX_i, vX_r, vX_l, vX_j, reduceIte]
      refine c48 h7 hf hc.1.1 (by omega) (by omega) (by omega) (by omega) fun χ b h11 h12 h13 h14 => ?_
      have mb := Mv_nm (lo := 0) (hi := 999) hf hc.1.1
      have hfi2 := flt_in mb.1
      have fr := fR_t h2 (fR_t h6 (fR_t h8 h12))
      by_cases e8 : flt (nmb f n 0 999 (celP f n (rdOn f n s)).2).2 = 0
      · have ec := nmb_ff hc.1.1 e8
        have vc := (h10 ec).1
        have vb := h14 e8
        rw [if_pos (flt_0 e8).1] at hQ
        have hDx : Dc χ s := Dc_R hD fr (fun z => z) rfl
        have hx6 := (hDx.2.2.2.2.2 efs).1.2.2.2.2.2.2.2.1 (pV s) (by omega) (by omega)
        simp (disch := (first | assumption | omega | exact Nat.le_of_ble_eq_true rfl | rfl)) only [w56_0, w56_1, w56_2, w56_3, w56_6, w56_9, w56_10, w56_11, w56_14, w56_15, w56_16, w56_19, w56_22, w56_23, w56_24, w56_27, w56_30, w56_31, w56_32, w56_33, w56_36, w56_37, w56_38, w56_41, w56_42, w56_43, w56_46, w56_47, w56_50, w56_51, w56_52, w56_53, w56_56, w56_59, w56_60, w56_61, w56_64, w56_67, w56_68, w56_71, w56_72, w56_73, w56_74, w56_77, Ko_n, Ko_v, vX_i, vX_r, vX_l, vX_j, reduceIte, h11.2.2.2.2.2.1, e8, not_true, Nat.reduceAdd]
        rw [c35 hp (by omega) (by omega) (by rw [hx6]; omega) (by rw [hx6]; omega)]
        simp (disch := (first | assumption | omega | exact Nat.le_of_ble_eq_true rfl | rfl)) only [w56_0, w56_1, w56_2, w56_3, w56_6, w56_9, w56_10, w56_11, w56_14, w56_15, w56_16, w56_19, w56_22, w56_23, w56_24, w56_27, w56_30, w56_31, w56_32, w56_33, w56_36, w56_37, w56_38, w56_41, w56_42, w56_43, w56_46, w56_47, w56_50, w56_51, w56_52, w56_53, w56_56, w56_59, w56_60, w56_61, w56_64, w56_67, w56_68, w56_71, w56_72, w56_73, w56_74, w56_77, Ko_n, Ko_v, vX_i, vX_r, vX_l, vX_j, reduceIte]
        have hK : pK (nmb f n 0 999 (celP f n (rdOn f n s)).2).2 = pK s := by rw [mb.2.1, hc.1.2.1]; rfl
        rw [vc, vb]
        refine hQ _ (Rc_o h11 (fun t => by unfold plE; rw [upA_o (by omega), upA_o (by omega), upA_o (by omega)]) (by unfold plE; rw [upA_o (by omega), upA_o (by omega), upA_o (by omega)])) ?_ (fun t o a b c dd => by unfold plE; rw [upA_o b, upA_o b, upA_o b]; exact fr t o a)
        exact Dc_er hDx efs ht (by omega) (by omega) (by omega) (by rw [hK]; rfl)
      · simp (disch := (first | assumption | omega | exact Nat.le_of_ble_eq_true rfl | rfl)) only [w56_0, w56_1, w56_2, w56_3, w56_6, w56_9, w56_10, w56_11, w56_14, w56_15, w56_16, w56_19, w56_22, w56_23, w56_24, w56_27, w56_30, w56_31, w56_32, w56_33, w56_36, w56_37, w56_38, w56_41, w56_42, w56_43, w56_46, w56_47, w56_50, w56_51, w56_52, w56_53, w56_56, w56_59, w56_60, w56_61, w56_64, w56_67, w56_68, w56_71, w56_72, w56_73, w56_74, w56_77, Ko_n, Ko_v, vX_i, vX_r, vX_l, vX_j, reduceIte, h11.2.2.2.2.2.1, e8, not_false_eq_true]
        have q : ∀ K, flt (if pB (nmb f n 0 999 (celP f n (rdOn f n s)).2).2 = 0 then stK2 K (nmb f n 0 999 (celP f n (rdOn f n s)).2).2 else (nmb f n 0 999 (celP f n (rdOn f n s)).2).2) ≠ 0 := by
          intro K
          split
          · exact e8
          · exact e8
        have q2 : ∀ K, Rc f n χ (if pB (nmb f n 0 999 (celP f n (rdOn f n s)).2).2 = 0 then stK2 K (nmb f n 0 999 (celP f n (rdOn f n s)).2).2 else (nmb f n 0 999 (celP f n (rdOn f n s)).2).2) := by
          intro K
          split
          · exact h11
          · exact h11
        exact hQ χ (q2 _) (Dc_f (Dc_R hD fr (fun z => z) rfl) (q _)) (fR_W fr)
  · simp (disch := (first | assumption | omega | exact Nat.le_of_ble_eq_true rfl | rfl)) only [w56_0, w56_1, w56_2, w56_3, w56_6, w56_9, w56_10, w56_11, w56_14, w56_15, w56_16, w56_19, w56_22, w56_23, w56_24, w56_27, w56_30, w56_31, w56_32, w56_33, w56_36, w56_37, w56_38, w56_41, w56_42, w56_43, w56_46, w56_47, w56_50, w56_51, w56_52, w56_53, w56_56, w56_59, w56_60, w56_61, w56_64, w56_67, w56_68, w56_71, w56_72, w56_73, w56_74, w56_77, Ko_n, Ko_v, vX_i, vX_r, vX_l, vX_j, reduceIte, h1.2.2.2.2.2.1, e6]
    have key : flt (nmb f n 0 (pK s 3 - 1) (if pB s = 0 ∧ pT s = 2 ∧ pV s < pK s 3 ∧ pK s (93 + pV s) = 4 then blm 4 s else s)).2 = flt (lkN 0 (pK s 3 - 1) s) ∧ fpl (nmb f n 0 (pK s 3 - 1) (if pB s = 0 ∧ pT s = 2 ∧ pV s < pK s 3 ∧ pK s (93 + pV s) = 4 then blm 4 s else s)).2 = fpl (lkN 0 (pK s 3 - 1) s) := by
      have hno : ¬ (pB s = 0 ∧ pT s = 2 ∧ pV s < pK s 3 ∧ pK s (93 + pV s) = 4) := by
        intro w
        apply e6
        have : lkN 0 (pK s 3 - 1) s = s := by unfold lkN; rw [if_pos w.2.1, if_pos (by omega)]
        rw [this]
        exact (flt_b w.1 (by omega)).1
      rw [if_neg hno]
      have hbn : pB (lkN 0 (pK s 3 - 1) s) ≠ 0 := fun w => e6 ((lkN_f hs).mpr w)
      show flt (rdO f n (lkN 0 (pK s 3 - 1) s)) = _ ∧ fpl (rdO f n (lkN 0 (pK s 3 - 1) s)) = _
      rw [rdO_b hbn]
      exact ⟨rfl, rfl⟩
    have m1 : Mv n s (if pB s = 0 ∧ pT s = 2 ∧ pV s < pK s 3 ∧ pK s (93 + pV s) = 4 then blm 4 s else s) := by
      split
      · exact Mv_bl hs (by omega) (by omega)
      · exact Mv_r hs
    have m2 := Mv_t m1 (Mv_nm (lo := 0) (hi := pK s 3 - 1) hf m1.1)
    have z3 := erE_f (w := nmb f n 0 (pK s 3 - 1) (if pB s = 0 ∧ pT s = 2 ∧ pV s < pK s 3 ∧ pK s (93 + pV s) = 4 then blm 4 s else s)) hf m2.1 (by rw [m2.2.1]; exact ht) (by rw [key.1]; exact e6)
    exact hQ τ (Rc_f h1 e6 (by rw [z3.1, key.1]) (by rw [z3.2, key.2])) (Dc_f (Dc_R hD h2 (fun z => z) rfl) (by rw [z3.1, key.1]; exact e6)) (fR_W h2)
