/-! ===== the class reads a law ===== -/
def cC (T : Tt) (f : Int → Int) (n D : Int) (b e : Nat) (F : Ps → Ps) : Prop := ∀ (d : Nat) (k : Int) (Q : vmO → vmH → Prop) (σ : St) (s : Ps), Rc f n σ s → lD σ s → pO n s → kO s → pD s = D → (∀ τ, Rc f n τ (F s) → lD τ (F s) → fL σ τ → Q (.inl none) (E T τ)) → Ca (d + e) k b [.ref 75, .int (i32 D)] (E T σ) Q
theorem lD_f {σ : St} {s s' : Ps} (h : lD σ s) (h0 : flt s' ≠ 0) : lD σ s' := ⟨h.1, fun e => absurd e h0⟩
theorem lD_fR {σ τ : St} {s : Ps} (h : lD σ s) (hr : fR σ τ) : lD τ s := lD_R h hr (fun e => e) rfl
theorem k9 {n : Int} {s : Ps} (hk : kO s) (hs : pO n s) (hn : n ≤ 900) (hlt : pB s = 0 → pK s 5 < pG s ∨ pG s < pH s) : flt s = 0 → 0 ≤ pK s 5 ∧ pK s 5 < 900 := fun e => by
  have hb := (flt_0 e).1
  have h1 := hk.2 hb
  have h2 := hs.2.2.1
  have h3 := hlt hb
  have h4 := hk.1
  omega
theorem c64 {e : Nat} {n D : Int} {f : Int → Int} {T : Tt} {sub : Ps → Ps} (hf : tpOk f n) (D1 : D ≤ 6) (hL : rL n (D + 1) sub) (hFo : Fo n (D + 1) sub) (hC : D < 6 → cC T f n (D + 1) 62 (e + 9) sub) : cC T f n D 64 (e + 10) (pAtm f n sub) := by
  intro d k Q σ s hR hD hs hk hd hQ
  have h0 := ob_rd
  have hp := ob_fp
  have hn9 := hf.2
  have hfi := flt_in hs
  subst hd
  rw [show d + (e + 10) = d + e + 10 by omega, n64 _ _ _ _ _ _ _ h0]
  by_cases he : flt s = 0
  · have hb := (flt_0 he).1
    have a8 := hR.2.2.2.2.2.2.2 he
    unfold pAtm at hQ
    rw [if_pos hb] at hQ
    simp (disch := (first | assumption | omega | exact Nat.le_of_ble_eq_true rfl | rfl)) only [w64_0, w64_1, w64_4, w64_7, w64_8, w64_9, w64_11, w64_14, w64_17, w64_18, w64_19, w64_22, w64_25, w64_26, w64_27, w64_28, w64_29, w64_32, w64_33, w64_35, w64_38, Ko_n, Ko_v, vX_i, vX_r, vX_l, vX_j, reduceIte, hR.2.2.2.2.2.1, he]
    rw [c43 hR hs (by omega) (by omega)]
    cases hz : isSg 40 s with
    | true =>
      have hh := isSg_h hz
      have hlw : lwd f s = -1 := by
        by_cases w : lwd f s = -1
        · exact w
        · have := lwd_h w; omega
      rw [if_pos hlw, hz, if_pos rfl] at hQ
      have g := Lo_gi hf hs D1
      have gk := Lo_k g.1 hk
      have g2 := hL _ g.1.1 gk (by rw [g.1.2.1]) (fun z => g.2 (by omega))
      simp (disch := (first | assumption | omega | exact Nat.le_of_ble_eq_true rfl | rfl)) only [w64_0, w64_1, w64_4, w64_7, w64_8, w64_9, w64_11, w64_14, w64_17, w64_18, w64_19, w64_22, w64_25, w64_26, w64_27, w64_28, w64_29, w64_32, w64_33, w64_35, w64_38, Ko_n, Ko_v, vX_i, vX_r, vX_l, vX_j, reduceIte, Int.reduceEq]
      refine c60 hR hf hs he D1 fun τ h1 h2 => ?_
      by_cases e2 : flt (gin f n s) = 0
      · rw [if_pos e2]
        have h6 : pD s < 6 := by
          rcases Int.lt_or_eq_of_le D1 with h | h
          · exact h
          · exact absurd (gin_f e2 h hs) (fun z => z)
        simp (disch := (first | assumption | omega | exact Nat.le_of_ble_eq_true rfl | rfl)) only [w64_0, w64_1, w64_4, w64_7, w64_8, w64_9, w64_11, w64_14, w64_17, w64_18, w64_19, w64_22, w64_25, w64_26, w64_27, w64_28, w64_29, w64_32, w64_33, w64_35, w64_38, Ko_n, Ko_v, vX_i, vX_r, vX_l, vX_j, reduceIte, Int.reduceEq]
        have hlD : lD τ (gin f n s) := lD_R hD h2 (fun _ => he) (by
          have := g.1
          unfold gin rdO
          rw [if_neg (show ¬ pD s = 6 by omega), if_pos (show pB (stD (pD s + 1) s) = 0 from hb)]
          rfl)
        have hc := hC h6 d 1 (Ko (d + e + 9) M_X5_readAtom 32 29 [.ref 75, .int (i32 (pD s)), vmJ] [] Q) τ _ h1 hlD g.1.1 gk (by rw [g.1.2.1])
        rw [show d + (e + 9) = d + e + 9 by omega] at hc
        refine hc fun ρ h3 h4 h5 => ?_
        simp (disch := (first | assumption | omega | exact Nat.le_of_ble_eq_true rfl | rfl)) only [w64_0, w64_1, w64_4, w64_7, w64_8, w64_9, w64_11, w64_14, w64_17, w64_18, w64_19, w64_22, w64_25, w64_26, w64_27, w64_28, w64_29, w64_32, w64_33, w64_35, w64_38, Ko_n, Ko_v, vX_i, vX_r, vX_l, vX_j, reduceIte]
        refine c46 h3 hf g2.1 (by omega) (by omega) fun ω h6 h7 => ?_
        simp (disch := (first | assumption | omega | exact Nat.le_of_ble_eq_true rfl | rfl)) only [w64_0, w64_1, w64_4, w64_7, w64_8, w64_9, w64_11, w64_14, w64_17, w64_18, w64_19, w64_22, w64_25, w64_26, w64_27, w64_28, w64_29, w64_32, w64_33, w64_35, w64_38, Ko_n, Ko_v, vX_i, vX_r, vX_l, vX_j, reduceIte]
        refine hQ ω h6 ?_ (fL_t (fR_L h2) (fL_t h5 (fR_L h7)))
        exact lD_R h4 h7 (fun e3 => by
          by_cases e4 : flt (sub (gin f n s)) = 0
          · exact e4
          · rw [show flt (dwn (muS f n 41 (sub (gin f n s)))) = flt (muS f n 41 (sub (gin f n s))) from rfl, (muS_f g2.1 (by omega) e4).1] at e3
            exact e3) (Mv_mu hf g2.1).2.1
      · rw [if_neg e2]
        simp (disch := (first | assumption | omega | exact Nat.le_of_ble_eq_true rfl | rfl)) only [w64_0, w64_1, w64_4, w64_7, w64_8, w64_9, w64_11, w64_14, w64_17, w64_18, w64_19, w64_22, w64_25, w64_26, w64_27, w64_28, w64_29, w64_32, w64_33, w64_35, w64_38, Ko_n, Ko_v, vX_i, vX_r, vX_l, vX_j, reduceIte]
        have q1 := hFo _ g.1.1 gk (by rw [g.1.2.1]) e2
        have q2 := muS_f (f := f) (c := 41) g2.1 (by omega) (by rw [q1.1]; exact e2)
        have q3 : flt (dwn (muS f n 41 (sub (gin f n s)))) = flt (gin f n s) := by rw [← q1.1, ← q2.1]; rfl
        have q4 : fpl (dwn (muS f n 41 (sub (gin f n s)))) = fpl (gin f n s) := by rw [← q1.2, ← q2.2]; rfl
        exact hQ τ (Rc_f h1 e2 q3 q4) (lD_f (lD_fR hD h2) (by rw [q3]; exact e2)) (fR_L h2)
    | false =>
      rw [hz, if_neg Bool.false_ne_true] at hQ
      simp (disch := (first | assumption | omega | exact Nat.le_of_ble_eq_true rfl | rfl)) only [w64_0, w64_1, w64_4, w64_7, w64_8, w64_9, w64_11, w64_14, w64_17, w64_18, w64_19, w64_22, w64_25, w64_26, w64_27, w64_28, w64_29, w64_32, w64_33, w64_35, w64_38, w64_39, w64_40, w64_43, w64_44, w64_47, w64_48, w64_51, w64_54, w64_55, Ko_n, Ko_v, vX_i, vX_r, vX_l, vX_j, reduceIte, Bool.false_eq_true]
      by_cases e2 : pT s = 2
      · have hlw : lwd f s = -1 := by
          by_cases w : lwd f s = -1
          · exact w
          · have := lwd_h w; omega
        have hv := hs.2.2.2.1
        have hlk : lkN 0 999 s = s := by unfold lkN; rw [if_pos e2, if_pos hv]
        have hnm : nmb f n 0 999 s = (pV s, rdOn f n s) := by
          unfold nmb rdO
          rw [hlk, if_pos hb, if_pos hb]
        rw [if_pos hlw, hnm] at hQ
        dsimp only at hQ
        have so2 := flt_i2.mpr e2
        have hl : lay (1000 + pV s) (rdOn f n s) = rdOn f n (lay (1000 + pV s) s) := by
          unfold lay
          rw [if_pos hb, if_pos (show pB (rdOn f n s) = 0 from hb)]
          rfl
        rw [hl] at hQ
        simp (disch := (first | assumption | omega | exact Nat.le_of_ble_eq_true rfl | rfl)) only [w64_0, w64_1, w64_4, w64_7, w64_8, w64_9, w64_11, w64_14, w64_17, w64_18, w64_19, w64_22, w64_25, w64_26, w64_27, w64_28, w64_29, w64_32, w64_33, w64_35, w64_38, w64_39, w64_40, w64_43, w64_44, w64_47, w64_48, w64_51, w64_54, w64_55, w64_58, w64_59, w64_60, w64_61, w64_64, w64_65, w64_66, w64_69, w64_70, w64_71, w64_74, w64_77, w64_78, w64_81, w64_82, w64_85, Ko_n, Ko_v, vX_i, vX_r, vX_l, vX_j, reduceIte, a8.2.2.1, so2, a8.2.2.2.1 e2, not_true, not_false_eq_true, show ¬ pV s = -1 by omega]
        refine cput (c' := 1000 + pV s) hR hD (k9 hk hs hn9.2 (fun _ => Or.inr (hs.2.2.2.2.1 hb (by omega)))) (fun _ => by unfold cdU; rw [if_pos (by omega)]; omega) fun τ h1 h2 h3 => ?_
        simp (disch := (first | assumption | omega | exact Nat.le_of_ble_eq_true rfl | rfl)) only [w64_0, w64_1, w64_4, w64_7, w64_8, w64_9, w64_11, w64_14, w64_17, w64_18, w64_19, w64_22, w64_25, w64_26, w64_27, w64_28, w64_29, w64_32, w64_33, w64_35, w64_38, w64_39, w64_40, w64_43, w64_44, w64_47, w64_48, w64_51, w64_54, w64_55, w64_58, w64_59, w64_60, w64_61, w64_64, w64_65, w64_66, w64_69, w64_70, w64_71, w64_74, w64_77, w64_78, w64_81, w64_82, w64_85, Ko_n, Ko_v, vX_i, vX_r, vX_l, vX_j, reduceIte]
        refine c40 h1 hf (lay_O hs) (by rw [flt_lay.1]; exact he) fun ρ h4 h5 => ?_
        simp (disch := (first | assumption | omega | exact Nat.le_of_ble_eq_true rfl | rfl)) only [w64_0, w64_1, w64_4, w64_7, w64_8, w64_9, w64_11, w64_14, w64_17, w64_18, w64_19, w64_22, w64_25, w64_26, w64_27, w64_28, w64_29, w64_32, w64_33, w64_35, w64_38, w64_39, w64_40, w64_43, w64_44, w64_47, w64_48, w64_51, w64_54, w64_55, w64_58, w64_59, w64_60, w64_61, w64_64, w64_65, w64_66, w64_69, w64_70, w64_71, w64_74, w64_77, w64_78, w64_81, w64_82, w64_85, Ko_n, Ko_v, vX_i, vX_r, vX_l, vX_j, reduceIte]
        exact hQ ρ h4 (lD_R h2 h5 (fun _ => by rw [flt_lay.1]; exact he) rfl) (fL_t h3 (fR_L h5))
      · have so2 : ¬ soP s = 2 := fun w => e2 (flt_i2.mp w)
        have a4 := hR.2.2.2.1
        rw [a8.2.2.1] at a4
        simp (disch := (first | assumption | omega | exact Nat.le_of_ble_eq_true rfl | rfl)) only [w64_0, w64_1, w64_4, w64_7, w64_8, w64_9, w64_11, w64_14, w64_17, w64_18, w64_19, w64_22, w64_25, w64_26, w64_27, w64_28, w64_29, w64_32, w64_33, w64_35, w64_38, w64_39, w64_40, w64_43, w64_44, w64_47, w64_48, w64_51, w64_54, w64_55, Ko_n, Ko_v, vX_i, vX_r, vX_l, vX_j, reduceIte, a8.2.2.1, so2, not_false_eq_true]
        rw [c65 hR hf hs]
        by_cases w : lwd f s = -1
        · have hlk : lkN 0 999 s = blm 2 s := by unfold lkN; rw [if_neg e2]
          have hbn := (blm_O hs (k := 2) (by omega) (by omega)).2
          have hnm : lay (1000 + (nmb f n 0 999 s).1) (nmb f n 0 999 s).2 = blm 2 s := by
            unfold nmb
            rw [hlk]
            dsimp only
            rw [rdO_b hbn]
            unfold lay
            rw [if_neg hbn]
          rw [if_pos w, hnm] at hQ
          rw [if_pos w]
          simp (disch := (first | assumption | omega | exact Nat.le_of_ble_eq_true rfl | rfl)) only [w64_0, w64_1, w64_4, w64_7, w64_8, w64_9, w64_11, w64_14, w64_17, w64_18, w64_19, w64_22, w64_25, w64_26, w64_27, w64_28, w64_29, w64_32, w64_33, w64_35, w64_38, w64_39, w64_40, w64_43, w64_44, w64_47, w64_48, w64_51, w64_54, w64_55, w64_58, w64_59, w64_60, w64_61, w64_64, w64_65, w64_66, w64_69, w64_70, w64_71, w64_74, w64_77, w64_78, w64_81, w64_82, w64_85, Ko_n, Ko_v, vX_i, vX_r, vX_l, vX_j, reduceIte, not_true]
          refine c39 hR hs (by omega) fun τ h1 h2 => ?_
          simp (disch := (first | assumption | omega | exact Nat.le_of_ble_eq_true rfl | rfl)) only [w64_0, w64_1, w64_4, w64_7, w64_8, w64_9, w64_11, w64_14, w64_17, w64_18, w64_19, w64_22, w64_25, w64_26, w64_27, w64_28, w64_29, w64_32, w64_33, w64_35, w64_38, w64_39, w64_40, w64_43, w64_44, w64_47, w64_48, w64_51, w64_54, w64_55, w64_58, w64_59, w64_60, w64_61, w64_64, w64_65, w64_66, w64_69, w64_70, w64_71, w64_74, w64_77, w64_78, w64_81, w64_82, w64_85, Ko_n, Ko_v, vX_i, vX_r, vX_l, vX_j, reduceIte]
          exact hQ τ h1 (lD_f (lD_fR hD h2) (fun z => hbn (flt_0 z).1)) (fR_L h2)
        · rw [if_neg w] at hQ ⊢
          have hwi : 0 ≤ lwd f s ∧ lwd f s ≤ 5 := by
            have : -1 ≤ lwd f s ∧ lwd f s ≤ 5 := by unfold lwd; repeat' split <;> omega
            omega
          have hl : lay (100 + lwd f s) (rdOn f n s) = rdOn f n (lay (100 + lwd f s) s) := by
            unfold lay
            rw [if_pos hb, if_pos (show pB (rdOn f n s) = 0 from hb)]
            rfl
          rw [hl] at hQ
          have hT1 := (lwd_h w).2
          simp (disch := (first | assumption | omega | exact Nat.le_of_ble_eq_true rfl | rfl)) only [w64_0, w64_1, w64_4, w64_7, w64_8, w64_9, w64_11, w64_14, w64_17, w64_18, w64_19, w64_22, w64_25, w64_26, w64_27, w64_28, w64_29, w64_32, w64_33, w64_35, w64_38, w64_39, w64_40, w64_43, w64_44, w64_47, w64_48, w64_51, w64_54, w64_55, w64_58, w64_59, w64_60, w64_61, w64_64, w64_65, w64_66, w64_69, w64_70, w64_71, w64_74, w64_77, w64_78, w64_81, w64_82, w64_85, Ko_n, Ko_v, vX_i, vX_r, vX_l, vX_j, reduceIte, not_false_eq_true, show ¬ 1000 + lwd f s = -1 by omega]
          refine cput (c' := 100 + lwd f s) hR hD (k9 hk hs hn9.2 (fun _ => Or.inr (hs.2.2.2.2.1 hb (by omega)))) (fun _ => by unfold cdU; rw [if_neg (by omega), if_pos (by omega)]; omega) fun τ h1 h2 h3 => ?_
          simp (disch := (first | assumption | omega | exact Nat.le_of_ble_eq_true rfl | rfl)) only [w64_0, w64_1, w64_4, w64_7, w64_8, w64_9, w64_11, w64_14, w64_17, w64_18, w64_19, w64_22, w64_25, w64_26, w64_27, w64_28, w64_29, w64_32, w64_33, w64_35, w64_38, w64_39, w64_40, w64_43, w64_44, w64_47, w64_48, w64_51, w64_54, w64_55, w64_58, w64_59, w64_60, w64_61, w64_64, w64_65, w64_66, w64_69, w64_70, w64_71, w64_74, w64_77, w64_78, w64_81, w64_82, w64_85, Ko_n, Ko_v, vX_i, vX_r, vX_l, vX_j, reduceIte]
          refine c40 h1 hf (lay_O hs) (by rw [flt_lay.1]; exact he) fun ρ h4 h5 => ?_
          simp (disch := (first | assumption | omega | exact Nat.le_of_ble_eq_true rfl | rfl)) only [w64_0, w64_1, w64_4, w64_7, w64_8, w64_9, w64_11, w64_14, w64_17, w64_18, w64_19, w64_22, w64_25, w64_26, w64_27, w64_28, w64_29, w64_32, w64_33, w64_35, w64_38, w64_39, w64_40, w64_43, w64_44, w64_47, w64_48, w64_51, w64_54, w64_55, w64_58, w64_59, w64_60, w64_61, w64_64, w64_65, w64_66, w64_69, w64_70, w64_71, w64_74, w64_77, w64_78, w64_81, w64_82, w64_85, Ko_n, Ko_v, vX_i, vX_r, vX_l, vX_j, reduceIte]
          exact hQ ρ h4 (lD_R h2 h5 (fun _ => by rw [flt_lay.1]; exact he) rfl) (fL_t h3 (fR_L h5))
  · have q := Fo_atm (f := f) (sub := sub) s hs hk rfl he
    simp (disch := (first | assumption | omega | exact Nat.le_of_ble_eq_true rfl | rfl)) only [w64_0, w64_1, w64_4, w64_7, w64_8, w64_9, w64_11, w64_14, w64_17, w64_18, w64_19, w64_22, w64_25, w64_26, w64_27, w64_28, w64_29, w64_32, w64_33, w64_35, w64_38, w64_39, w64_40, w64_43, w64_44, w64_47, w64_48, w64_51, w64_54, w64_55, w64_58, w64_59, w64_60, w64_61, w64_64, w64_65, w64_66, w64_69, w64_70, w64_71, w64_74, w64_77, w64_78, w64_81, w64_82, w64_85, Ko_n, Ko_v, vX_i, vX_r, vX_l, vX_j, reduceIte, hR.2.2.2.2.2.1, he]
    exact hQ σ (Rc_f hR he q.1 q.2) (lD_f hD (by rw [q.1]; exact he)) fL_r
/-- a loop's body of the class, behind its token -/
theorem c63 {e : Nat} {n D : Int} {f : Int → Int} {T : Tt} {F : Ps → Ps} (hf : tpOk f n) (D1 : D ≤ 6) (hL : rL n D F) (hC : cC T f n D 64 (e + 10) F) : cC T f n D 63 (e + 11) (fun s => lpG (isSg 42) (fun s => lay 12 (F (rdOn f n s))) 901 (F s)) := by
  intro d k Q σ s hR hD hs hk hd hQ
  have h0 := ob_rd
  have hp := ob_fp
  have hn9 := hf.2
  have loop : ∀ (m j : Nat) (τ : St) (s : Ps), Rc f n τ s → lD τ s → pO n s → kO s → pD s = D → (pB s = 0 → n - pG s ≤ m) → (pB s = 0 → (j : Int) + (n - pG s) ≤ 900) → (∀ ρ, Rc f n ρ (lpG (isSg 42) (fun s => lay 12 (F (rdOn f n s))) m s) → lD ρ (lpG (isSg 42) (fun s => lay 12 (F (rdOn f n s))) m s) → fL τ ρ → Q (.inl none) (E T ρ)) → (j : Int) ≤ 900 → Wp (d + e + 11) M_X5_readTerm 7 [.ref 75, .int (i32 D), .int (i32 j)] [] (E T τ) Q := by
    intro m
    induction m with
    | zero =>
      intro j τ s hR hD hs hk hd hm hj hQ h9
      have hz := sg_ed (c := 42) hs (by omega) hm
      rw [w63_7]
      by_cases e1 : (900 : Int) ≤ j
      · simp (disch := (first | assumption | omega | exact Nat.le_of_ble_eq_true rfl | rfl)) only [w63_0, w63_1, w63_2, w63_5, w63_6, w63_8, w63_11, w63_14, w63_15, w63_17, w63_20, w63_23, w63_24, w63_25, w63_28, w63_29, w63_32, w63_35, w63_38, w63_41, w63_44, w63_47, Ko_n, Ko_v, vX_i, vX_r, vX_l, vX_j, reduceIte, e1]
        exact hQ τ hR hD fL_r
      · simp (disch := (first | assumption | omega | exact Nat.le_of_ble_eq_true rfl | rfl)) only [w63_0, w63_1, w63_2, w63_5, w63_6, w63_8, w63_11, w63_14, w63_15, w63_17, w63_20, w63_23, w63_24, w63_25, w63_28, w63_29, w63_32, w63_35, w63_38, w63_41, w63_44, w63_47, Ko_n, Ko_v, vX_i, vX_r, vX_l, vX_j, reduceIte, e1]
        refine c45 hR hf hs (by omega) (by omega) (fun w => by rw [hz] at w; cases w) (fun _ => ?_)
        simp (disch := (first | assumption | omega | exact Nat.le_of_ble_eq_true rfl | rfl)) only [w63_0, w63_1, w63_2, w63_5, w63_6, w63_8, w63_11, w63_14, w63_15, w63_17, w63_20, w63_23, w63_24, w63_25, w63_28, w63_29, w63_32, w63_35, w63_38, w63_41, w63_44, w63_47, Ko_n, Ko_v, vX_i, vX_r, vX_l, vX_j, reduceIte]
        exact hQ τ hR hD fL_r
    | succ m ih =>
      intro j τ s hR hD hs hk hd hm hj hQ h9
      rw [w63_7]
      by_cases e1 : (900 : Int) ≤ j
      · have hz := sg_ed (c := 42) hs (by omega) (fun w => by have := hj w; omega)
        rw [lpG_0 (n := n) hz] at hQ
        simp (disch := (first | assumption | omega | exact Nat.le_of_ble_eq_true rfl | rfl)) only [w63_0, w63_1, w63_2, w63_5, w63_6, w63_8, w63_11, w63_14, w63_15, w63_17, w63_20, w63_23, w63_24, w63_25, w63_28, w63_29, w63_32, w63_35, w63_38, w63_41, w63_44, w63_47, Ko_n, Ko_v, vX_i, vX_r, vX_l, vX_j, reduceIte, e1]
        exact hQ τ hR hD fL_r
      · simp (disch := (first | assumption | omega | exact Nat.le_of_ble_eq_true rfl | rfl)) only [w63_0, w63_1, w63_2, w63_5, w63_6, w63_8, w63_11, w63_14, w63_15, w63_17, w63_20, w63_23, w63_24, w63_25, w63_28, w63_29, w63_32, w63_35, w63_38, w63_41, w63_44, w63_47, Ko_n, Ko_v, vX_i, vX_r, vX_l, vX_j, reduceIte, e1]
        refine c45 hR hf hs (by omega) (by omega) (fun hz ρ h1 h2 => ?_) (fun hz => ?_)
        · have hh := isSg_h hz
          have hmm := hm hh.1
          have hjj := hj hh.1
          have hlt := hs.2.2.2.2.1 hh.1 (by omega)
          have on := lp_on (c := 12) (m := m) hf hL hs hk hd D1 hh.1 (by omega) hmm
          have r := rdOn_O hf hs
          have rk := Lo_k (Lo_rd hf hs) hk
          have b := hL _ r.1 rk hd (fun z => by omega)
          rw [show lpG (isSg 42) (fun s => lay 12 (F (rdOn f n s))) (m + 1) s = lpG (isSg 42) (fun s => lay 12 (F (rdOn f n s))) m (lay 12 (F (rdOn f n s))) by simp only [lpG]; rw [if_pos hz]] at hQ
          simp (disch := (first | assumption | omega | exact Nat.le_of_ble_eq_true rfl | rfl)) only [w63_0, w63_1, w63_2, w63_5, w63_6, w63_8, w63_11, w63_14, w63_15, w63_17, w63_20, w63_23, w63_24, w63_25, w63_28, w63_29, w63_32, w63_35, w63_38, w63_41, w63_44, w63_47, Ko_n, Ko_v, vX_i, vX_r, vX_l, vX_j, reduceIte, Int.reduceEq]
          have hlD : lD ρ (rdOn f n s) := lD_R hD h2 (fun z => flt_rd z (by omega)) rfl
          have hc := hC d 1 (Ko (d + e + 10) M_X5_readTerm 28 25 [.ref 75, .int (i32 D), .int (i32 j)] [] Q) ρ _ h1 hlD r.1 rk hd
          rw [show d + (e + 10) = d + e + 10 by omega] at hc
          refine hc fun ω h3 h4 h5 => ?_
          simp (disch := (first | assumption | omega | exact Nat.le_of_ble_eq_true rfl | rfl)) only [w63_0, w63_1, w63_2, w63_5, w63_6, w63_8, w63_11, w63_14, w63_15, w63_17, w63_20, w63_23, w63_24, w63_25, w63_28, w63_29, w63_32, w63_35, w63_38, w63_41, w63_44, w63_47, Ko_n, Ko_v, vX_i, vX_r, vX_l, vX_j, reduceIte, Nat.reduceAdd]
          refine cput (c' := 12) h3 h4 (k9 (Lo_k b rk) b.1 hn9.2 (fun z => Or.inl ?_)) (fun _ => rfl) fun χ h6 h7 h8 => ?_
          · have q := b.2.2.2.2 z
            have q2 := hk.2 hh.1
            have q3 : pK (rdOn f n s) 5 = pK s 5 := rfl
            omega
          simp (disch := (first | assumption | omega | exact Nat.le_of_ble_eq_true rfl | rfl)) only [w63_0, w63_1, w63_2, w63_5, w63_6, w63_8, w63_11, w63_14, w63_15, w63_17, w63_20, w63_23, w63_24, w63_25, w63_28, w63_29, w63_32, w63_35, w63_38, w63_41, w63_44, w63_47, Ko_n, Ko_v, vX_i, vX_r, vX_l, vX_j, reduceIte]
          refine ih (j + 1) χ _ h6 h7 on.1.1 (Lo_k on.1 hk) (by rw [on.1.2.1]; omega) on.2 (fun z => ?_) (fun υ g1 g2 g3 => hQ υ g1 g2 (fL_t (fR_L h2) (fL_t h5 (fL_t h8 g3)))) (by omega)
          have q := b.2.2.2.2 (by rw [flt_lay.2.2.2.2.1] at z; exact z)
          rw [flt_lay.2.2.2.1]
          omega
        · rw [lpG_0 (n := n) hz] at hQ
          simp (disch := (first | assumption | omega | exact Nat.le_of_ble_eq_true rfl | rfl)) only [w63_0, w63_1, w63_2, w63_5, w63_6, w63_8, w63_11, w63_14, w63_15, w63_17, w63_20, w63_23, w63_24, w63_25, w63_28, w63_29, w63_32, w63_35, w63_38, w63_41, w63_44, w63_47, Ko_n, Ko_v, vX_i, vX_r, vX_l, vX_j, reduceIte]
          exact hQ τ hR hD fL_r
  have b := hL s hs hk hd (fun z => by omega)
  have b3 := b.1.2.2.1
  rw [show d + (e + 11) = d + e + 11 by omega, n63 _ _ _ _ _ _ _ h0]
  simp (disch := (first | assumption | omega | exact Nat.le_of_ble_eq_true rfl | rfl)) only [w63_0, w63_1, w63_2, w63_5, w63_6, w63_8, w63_11, w63_14, w63_15, w63_17, w63_20, w63_23, w63_24, w63_25, w63_28, w63_29, w63_32, w63_35, w63_38, w63_41, w63_44, w63_47, Ko_n, Ko_v, vX_i, vX_r, vX_l, vX_j, reduceIte]
  have hc := hC d 1 (Ko (d + e + 10) M_X5_readTerm 5 2 [.ref 75, .int (i32 D), vmJ] [] Q) σ s hR hD hs hk hd
  rw [show d + (e + 10) = d + e + 10 by omega] at hc
  refine hc fun ω h3 h4 h5 => ?_
  simp (disch := (first | assumption | omega | exact Nat.le_of_ble_eq_true rfl | rfl)) only [w63_0, w63_1, w63_2, w63_5, w63_6, w63_8, w63_11, w63_14, w63_15, w63_17, w63_20, w63_23, w63_24, w63_25, w63_28, w63_29, w63_32, w63_35, w63_38, w63_41, w63_44, w63_47, Ko_n, Ko_v, vX_i, vX_r, vX_l, vX_j, reduceIte]
  exact loop 901 0 ω _ h3 h4 b.1 (Lo_k b hk) (by rw [b.2.1]; omega) (fun _ => by omega) (fun _ => by omega) (fun υ g1 g2 g3 => hQ υ g1 g2 (fL_t h5 g3)) (by omega)
