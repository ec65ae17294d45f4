/-! ===== the class reads a law: its leaves ===== -/
def lD (σ : St) (s : Ps) : Prop := (0 ≤ σ 301 81 0 ∧ σ 301 81 0 ≤ 900) ∧ (flt s = 0 → σ 301 81 0 = pK s 5 ∧ ∀ i, 0 ≤ i → i < pK s 5 → σ 300 81 i = cdU (pK s (988 + i)))
def fL (σ τ : St) : Prop := ∀ t o, o ≠ 75 → o ≠ 81 → τ t o = σ t o
theorem fL_r {σ : St} : fL σ σ := fun _ _ _ _ => rfl
theorem fL_t {σ τ ρ : St} (h1 : fL σ τ) (h2 : fL τ ρ) : fL σ ρ := fun t o h h' => (h2 t o h h').trans (h1 t o h h')
theorem fR_L {σ τ : St} (h : fR σ τ) : fL σ τ := fun t o h1 _ => h t o h1
theorem lD_R {σ τ : St} {s s' : Ps} (h : lD σ s) (hr : fR σ τ) (hf : flt s' = 0 → flt s = 0) (hk : pK s' = pK s) : lD τ s' := by
  unfold lD
  rw [hr 301 81 (by omega), hr 300 81 (by omega), hk]
  exact ⟨h.1, fun e => h.2 (hf e)⟩
theorem flt_rd {f : Int → Int} {n : Int} {s : Ps} (h : flt (rdOn f n s) = 0) (ht : pT s ≠ 3) : flt s = 0 := (flt_b (show pB s = 0 from (flt_0 h).1) ht).1
theorem flt_lay {c : Int} {s : Ps} : flt (lay c s) = flt s ∧ fpl (lay c s) = fpl s ∧ pT (lay c s) = pT s ∧ pG (lay c s) = pG s ∧ pB (lay c s) = pB s ∧ pD (lay c s) = pD s := by
  unfold lay
  split
  · exact ⟨rfl, rfl, rfl, rfl, rfl, rfl⟩
  · exact ⟨rfl, rfl, rfl, rfl, rfl, rfl⟩
theorem Rc_lay {f : Int → Int} {n c : Int} {σ : St} {s : Ps} (h : Rc f n σ s) : Rc f n σ (lay c s) := by
  unfold lay
  split
  · exact h
  · exact h
theorem cput {d : Nat} {k c c' n : Int} {f : Int → Int} {T : Tt} {σ : St} {s : Ps} {Q : vmO → vmH → Prop} (hR : Rc f n σ s) (hD : lD σ s) (h5 : flt s = 0 → 0 ≤ pK s 5 ∧ pK s 5 < 900) (hc : flt s = 0 → cdU c' = c) (hQ : ∀ τ, Rc f n τ (lay c' s) → lD τ (lay c' s) → fL σ τ → Q (.inl none) (E T τ)) : Ca d k 21 [.ref 81, .int (i32 c)] (E T σ) Q := by
  have h0 := ob_fl
  by_cases e : σ 301 81 0 < 900
  · rw [c21 h0 hD.1.1 e]
    refine hQ _ (Rc_lay (Rc_fr hR (fun t t0 t1 => by rw [upA_t (by omega), upA_t (by omega)]) (by rw [upA_t (by omega), upA_t (by omega)]))) ⟨?_, fun e2 => ?_⟩ (fun t o h1 h2 => by rw [upA_o h2, upA_o h2])
    · rw [upA_s]; have := hD.1; omega
    · rw [flt_lay.1] at e2
      have hd := hD.2 e2
      have hb := (flt_0 e2).1
      have hk5 := h5 e2
      have hl : pK (lay c' s) = fu (fu (pK s) (988 + pK s 5) c') 5 (pK s 5 + 1) := by unfold lay; rw [if_pos hb]; rfl
      rw [hl, fu_s, upA_s, hd.1]
      refine ⟨rfl, fun i i0 i1 => ?_⟩
      rw [upA_t (by omega), upA_s, fu_n (by omega : 988 + i ≠ 5)]
      by_cases e3 : i = pK s 5
      · rw [e3, fu_s, fu_s, hc e2]
      · rw [fu_n e3, fu_n (by omega), hd.2 i i0 (by omega)]
  · have h9 : ¬ flt s = 0 := fun e2 => by
      have := hD.2 e2
      have := h5 e2
      omega
    rw [n21 _ _ _ _ _ _ _ h0]
    have h1 := hD.1
    simp (disch := (first | assumption | omega | exact Nat.le_of_ble_eq_true rfl | rfl)) only [w21_0, w21_1, w21_4, w21_5, w21_8, w21_9, w21_12, w21_13, w21_16, w21_17, w21_20, w21_21, w21_22, w21_23, w21_24, w21_27, w21_28, w21_29, w21_32, Ko_n, Ko_v, vX_i, vX_r, vX_l, vX_j, reduceIte, show ((900 : Nat) : Int) ≤ σ 301 81 0 by omega]
    exact hQ _ (Rc_lay hR) ⟨hD.1, fun e2 => absurd (flt_lay.1 ▸ e2) h9⟩ fL_r
theorem gin_f {f : Int → Int} {n : Int} {s : Ps} (h : flt (gin f n s) = 0) (h6 : pD s = 6) (hs : pO n s) : False := by
  have := (flt_0 h).1
  unfold gin at this
  rw [rdO_B, if_pos h6] at this
  exact (blm_O hs (k := 4) (by omega) (by omega)).2 this
theorem c60 {d : Nat} {k n : Int} {f : Int → Int} {T : Tt} {σ : St} {s : Ps} {Q : vmO → vmH → Prop} (hR : Rc f n σ s) (hf : tpOk f n) (hs : pO n s) (he : flt s = 0) (hd : pD s ≤ 6) (hQ : ∀ τ, Rc f n τ (gin f n s) → fR σ τ → Q (.inl (some (.int (i32 (if flt (gin f n s) = 0 then 1 else 0))))) (E T τ)) : Ca (d + 5) k 60 [.ref 75, .int (i32 (pD s))] (E T σ) Q := by
  have h0 := ob_rd
  have hd0 := hs.2.2.2.2.2
  have hb := (flt_0 he).1
  rw [n60 _ _ _ _ _ _ _ h0]
  by_cases e : pD s = 6
  · have hg : gin f n s = stD 7 (blm 4 s) := by
      unfold gin rdO
      rw [if_pos e, e]
      exact if_neg (show ¬ pB (stD (6 + 1) (blm 4 s)) = 0 from (blm_O hs (by omega) (by omega)).2)
    have hx : ¬ flt (gin f n s) = 0 := fun w => gin_f w e hs
    rw [if_neg hx, hg] at hQ
    simp (disch := (first | assumption | omega | exact Nat.le_of_ble_eq_true rfl | rfl)) only [w60_0, w60_1, w60_3, w60_6, w60_7, w60_8, w60_11, w60_12, w60_13, w60_14, w60_17, w60_18, w60_21, w60_24, w60_25, w60_28, w60_29, Ko_n, Ko_v, vX_i, vX_r, vX_l, vX_j, reduceIte, show ¬ pD s < 6 by omega]
    refine c39 hR hs (by omega) fun τ h1 h2 => ?_
    simp (disch := (first | assumption | omega | exact Nat.le_of_ble_eq_true rfl | rfl)) only [w60_0, w60_1, w60_3, w60_6, w60_7, w60_8, w60_11, w60_12, w60_13, w60_14, w60_17, w60_18, w60_21, w60_24, w60_25, w60_28, w60_29, Ko_n, Ko_v, vX_i, vX_r, vX_l, vX_j, reduceIte]
    exact hQ τ h1 h2
  · have hg : gin f n s = stD (pD s + 1) (rdOn f n s) := by
      unfold gin rdO
      rw [if_neg e]
      exact if_pos (show pB (stD (pD s + 1) s) = 0 from hb)
    rw [hg] at hQ
    have hfl : flt (stD (pD s + 1) (rdOn f n s)) = flt (rdOn f n s) := rfl
    rw [hfl] at hQ
    have hin := flt_in (rdOn_O hf hs).1
    simp (disch := (first | assumption | omega | exact Nat.le_of_ble_eq_true rfl | rfl)) only [w60_0, w60_1, w60_3, w60_6, w60_7, w60_8, w60_11, w60_12, w60_13, w60_14, w60_17, w60_18, w60_21, w60_24, w60_25, w60_28, w60_29, Ko_n, Ko_v, vX_i, vX_r, vX_l, vX_j, reduceIte, show pD s < 6 by omega]
    refine c40 hR hf hs he fun τ h1 h2 => ?_
    have hq := hQ τ h1 h2
    by_cases e2 : flt (rdOn f n s) = 0
    · rw [if_pos e2] at hq
      simp (disch := (first | assumption | omega | exact Nat.le_of_ble_eq_true rfl | rfl)) only [w60_0, w60_1, w60_3, w60_6, w60_7, w60_8, w60_11, w60_12, w60_13, w60_14, w60_17, w60_18, w60_21, w60_24, w60_25, w60_28, w60_29, Ko_n, Ko_v, vX_i, vX_r, vX_l, vX_j, reduceIte, h1.2.2.2.2.2.1, e2, not_true]
      exact hq
    · rw [if_neg e2] at hq
      simp (disch := (first | assumption | omega | exact Nat.le_of_ble_eq_true rfl | rfl)) only [w60_0, w60_1, w60_3, w60_6, w60_7, w60_8, w60_11, w60_12, w60_13, w60_14, w60_17, w60_18, w60_21, w60_24, w60_25, w60_28, w60_29, Ko_n, Ko_v, vX_i, vX_r, vX_l, vX_j, reduceIte, h1.2.2.2.2.2.1, e2, not_false_eq_true]
      exact hq
theorem c61 {d : Nat} {k n : Int} {f : Int → Int} {T : Tt} {σ : St} {s : Ps} {Q : vmO → vmH → Prop} (hR : Rc f n σ s) (hf : tpOk f n) (hs : pO n s) (hQ : ∀ τ v, Rc f n τ (cmS f n s) → fR σ τ → (1010 ≤ v ∧ v ≤ 1012) → (flt (cmS f n s) = 0 → v = cdU (cmC (pT s))) → Q (.inl (some (.int (i32 v)))) (E T τ)) : Ca (d + 6) k 61 [.ref 75] (E T σ) Q := by
  have h0 := ob_rd
  rw [n61 _ _ _ _ _ _ h0]
  have hy : ∀ c, (c = 61 ∨ c = 60 ∨ c = 62) → isSg c s = true → cmS f n s = rdOn f n s := by
    intro c hc hg
    have := isSg_h hg
    unfold cmS rdO
    rw [if_pos (show pT s = 61 ∨ pT s = 60 ∨ pT s = 62 by omega), if_pos this.1]
  have hno : isSg 61 s = false → isSg 60 s = false → isSg 62 s = false → cmS f n s = blm 2 s := by
    intro h1 h2 h3
    have q : ∀ c, isSg c s = false → pB s = 0 → pT s ≠ c := fun c hc hb ht => by
      rw [show isSg c s = true from decide_eq_true ⟨hb, ht⟩] at hc
      cases hc
    unfold cmS rdO
    by_cases e : pB s = 0
    · have := q 61 h1 e
      have := q 60 h2 e
      have := q 62 h3 e
      rw [if_neg (show ¬ (pT s = 61 ∨ pT s = 60 ∨ pT s = 62) by omega), if_neg (blm_O hs (by omega) (by omega)).2]
    · have hb : blm 2 s = s := by unfold blm; rw [if_neg e]
      rw [hb]
      have : (if pT s = 61 ∨ pT s = 60 ∨ pT s = 62 then s else s) = s := by split <;> rfl
      rw [this, if_neg e]
  simp (disch := (first | assumption | omega | exact Nat.le_of_ble_eq_true rfl | rfl)) only [w61_0, w61_1, w61_3, w61_6, w61_9, w61_12, w61_13, w61_14, w61_16, w61_19, w61_22, w61_25, w61_26, w61_27, w61_29, w61_32, w61_35, w61_36, w61_37, w61_40, w61_43, Ko_n, Ko_v, vX_i, vX_r, vX_l, vX_j, reduceIte]
  refine c45 hR hf hs (by omega) (by omega) (fun e τ h1 h2 => ?_) (fun e1 => ?_)
  · simp (disch := (first | assumption | omega | exact Nat.le_of_ble_eq_true rfl | rfl)) only [w61_0, w61_1, w61_3, w61_6, w61_9, w61_12, w61_13, w61_14, w61_16, w61_19, w61_22, w61_25, w61_26, w61_27, w61_29, w61_32, w61_35, w61_36, w61_37, w61_40, w61_43, Ko_n, Ko_v, vX_i, vX_r, vX_l, vX_j, reduceIte, Int.reduceEq]
    have ht := isSg_h e
    exact hQ τ _ (by rw [hy 61 (by omega) e]; exact h1) h2 (by omega) (fun _ => by rw [ht.2]; rfl)
  · simp (disch := (first | assumption | omega | exact Nat.le_of_ble_eq_true rfl | rfl)) only [w61_0, w61_1, w61_3, w61_6, w61_9, w61_12, w61_13, w61_14, w61_16, w61_19, w61_22, w61_25, w61_26, w61_27, w61_29, w61_32, w61_35, w61_36, w61_37, w61_40, w61_43, Ko_n, Ko_v, vX_i, vX_r, vX_l, vX_j, reduceIte]
    refine c45 hR hf hs (by omega) (by omega) (fun e τ h1 h2 => ?_) (fun e2 => ?_)
    · simp (disch := (first | assumption | omega | exact Nat.le_of_ble_eq_true rfl | rfl)) only [w61_0, w61_1, w61_3, w61_6, w61_9, w61_12, w61_13, w61_14, w61_16, w61_19, w61_22, w61_25, w61_26, w61_27, w61_29, w61_32, w61_35, w61_36, w61_37, w61_40, w61_43, Ko_n, Ko_v, vX_i, vX_r, vX_l, vX_j, reduceIte, Int.reduceEq]
      have ht := isSg_h e
      exact hQ τ _ (by rw [hy 60 (by omega) e]; exact h1) h2 (by omega) (fun _ => by rw [ht.2]; rfl)
    · simp (disch := (first | assumption | omega | exact Nat.le_of_ble_eq_true rfl | rfl)) only [w61_0, w61_1, w61_3, w61_6, w61_9, w61_12, w61_13, w61_14, w61_16, w61_19, w61_22, w61_25, w61_26, w61_27, w61_29, w61_32, w61_35, w61_36, w61_37, w61_40, w61_43, Ko_n, Ko_v, vX_i, vX_r, vX_l, vX_j, reduceIte]
      refine c45 hR hf hs (by omega) (by omega) (fun e τ h1 h2 => ?_) (fun e3 => ?_)
      · simp (disch := (first | assumption | omega | exact Nat.le_of_ble_eq_true rfl | rfl)) only [w61_0, w61_1, w61_3, w61_6, w61_9, w61_12, w61_13, w61_14, w61_16, w61_19, w61_22, w61_25, w61_26, w61_27, w61_29, w61_32, w61_35, w61_36, w61_37, w61_40, w61_43, Ko_n, Ko_v, vX_i, vX_r, vX_l, vX_j, reduceIte, Int.reduceEq, not_false_eq_true]
        have ht := isSg_h e
        exact hQ τ _ (by rw [hy 62 (by omega) e]; exact h1) h2 (by omega) (fun _ => by rw [ht.2]; rfl)
      · simp (disch := (first | assumption | omega | exact Nat.le_of_ble_eq_true rfl | rfl)) only [w61_0, w61_1, w61_3, w61_6, w61_9, w61_12, w61_13, w61_14, w61_16, w61_19, w61_22, w61_25, w61_26, w61_27, w61_29, w61_32, w61_35, w61_36, w61_37, w61_40, w61_43, Ko_n, Ko_v, vX_i, vX_r, vX_l, vX_j, reduceIte, not_true]
        refine c39 hR hs (by omega) fun τ h1 h2 => ?_
        simp (disch := (first | assumption | omega | exact Nat.le_of_ble_eq_true rfl | rfl)) only [w61_0, w61_1, w61_3, w61_6, w61_9, w61_12, w61_13, w61_14, w61_16, w61_19, w61_22, w61_25, w61_26, w61_27, w61_29, w61_32, w61_35, w61_36, w61_37, w61_40, w61_43, Ko_n, Ko_v, vX_i, vX_r, vX_l, vX_j, reduceIte]
        exact hQ τ _ (by rw [hno e1 e2 e3]; exact h1) h2 (by omega) (fun w => by
          rw [hno e1 e2 e3] at w
          exact absurd (flt_0 w).1 (blm_O hs (by omega) (by omega)).2)
theorem c65 {d : Nat} {k n : Int} {f : Int → Int} {T : Tt} {σ : St} {s : Ps} {Q : vmO → vmH → Prop} (hR : Rc f n σ s) (hf : tpOk f n) (hs : pO n s) : Ca (d + 5) k 65 [.ref 75] (E T σ) Q = Q (.inl (some (.int (i32 (if lwd f s = -1 then -1 else 1000 + lwd f s))))) (E T σ) := by
  have h0 := ob_rd
  rw [n65 _ _ _ _ _ _ h0]
  unfold lwd
  simp (disch := (first | assumption | omega | exact Nat.le_of_ble_eq_true rfl | rfl)) only [w65_0, w65_1, w65_3, w65_6, w65_9, w65_12, w65_13, w65_14, w65_16, w65_19, w65_22, w65_25, w65_26, w65_27, w65_30, w65_33, w65_36, w65_39, w65_40, w65_41, w65_44, w65_47, w65_50, w65_53, w65_54, w65_55, w65_58, w65_61, w65_64, w65_67, w65_68, w65_69, w65_72, w65_75, w65_78, w65_81, w65_84, w65_85, Ko_n, Ko_v, vX_i, vX_r, vX_l, vX_j, reduceIte]
  rw [c42 (i := 13) rfl hR hf hs (by omega)]
  cases e : isWd f 13 s with
  | true => simp (disch := (first | assumption | omega | exact Nat.le_of_ble_eq_true rfl | rfl)) only [w65_0, w65_1, w65_3, w65_6, w65_9, w65_12, w65_13, w65_14, w65_16, w65_19, w65_22, w65_25, w65_26, w65_27, w65_30, w65_33, w65_36, w65_39, w65_40, w65_41, w65_44, w65_47, w65_50, w65_53, w65_54, w65_55, w65_58, w65_61, w65_64, w65_67, w65_68, w65_69, w65_72, w65_75, w65_78, w65_81, w65_84, w65_85, Ko_n, Ko_v, vX_i, vX_r, vX_l, vX_j, reduceIte, Int.reduceEq, Int.reduceNeg, Int.reduceAdd]
  | false =>
    simp (disch := (first | assumption | omega | exact Nat.le_of_ble_eq_true rfl | rfl)) only [w65_0, w65_1, w65_3, w65_6, w65_9, w65_12, w65_13, w65_14, w65_16, w65_19, w65_22, w65_25, w65_26, w65_27, w65_30, w65_33, w65_36, w65_39, w65_40, w65_41, w65_44, w65_47, w65_50, w65_53, w65_54, w65_55, w65_58, w65_61, w65_64, w65_67, w65_68, w65_69, w65_72, w65_75, w65_78, w65_81, w65_84, w65_85, Ko_n, Ko_v, vX_i, vX_r, vX_l, vX_j, reduceIte, Bool.false_eq_true]
    rw [c42 (i := 14) rfl hR hf hs (by omega)]
    cases e : isWd f 14 s with
    | true => simp (disch := (first | assumption | omega | exact Nat.le_of_ble_eq_true rfl | rfl)) only [w65_0, w65_1, w65_3, w65_6, w65_9, w65_12, w65_13, w65_14, w65_16, w65_19, w65_22, w65_25, w65_26, w65_27, w65_30, w65_33, w65_36, w65_39, w65_40, w65_41, w65_44, w65_47, w65_50, w65_53, w65_54, w65_55, w65_58, w65_61, w65_64, w65_67, w65_68, w65_69, w65_72, w65_75, w65_78, w65_81, w65_84, w65_85, Ko_n, Ko_v, vX_i, vX_r, vX_l, vX_j, reduceIte, Int.reduceEq, Int.reduceNeg, Int.reduceAdd]
    | false =>
      simp (disch := (first | assumption | omega | exact Nat.le_of_ble_eq_true rfl | rfl)) only [w65_0, w65_1, w65_3, w65_6, w65_9, w65_12, w65_13, w65_14, w65_16, w65_19, w65_22, w65_25, w65_26, w65_27, w65_30, w65_33, w65_36, w65_39, w65_40, w65_41, w65_44, w65_47, w65_50, w65_53, w65_54, w65_55, w65_58, w65_61, w65_64, w65_67, w65_68, w65_69, w65_72, w65_75, w65_78, w65_81, w65_84, w65_85, Ko_n, Ko_v, vX_i, vX_r, vX_l, vX_j, reduceIte, Bool.false_eq_true]
      rw [c42 (i := 15) rfl hR hf hs (by omega)]
      cases e : isWd f 15 s with
      | true => simp (disch := (first | assumption | omega | exact Nat.le_of_ble_eq_true rfl | rfl)) only [w65_0, w65_1, w65_3, w65_6, w65_9, w65_12, w65_13, w65_14, w65_16, w65_19, w65_22, w65_25, w65_26, w65_27, w65_30, w65_33, w65_36, w65_39, w65_40, w65_41, w65_44, w65_47, w65_50, w65_53, w65_54, w65_55, w65_58, w65_61, w65_64, w65_67, w65_68, w65_69, w65_72, w65_75, w65_78, w65_81, w65_84, w65_85, Ko_n, Ko_v, vX_i, vX_r, vX_l, vX_j, reduceIte, Int.reduceEq, Int.reduceNeg, Int.reduceAdd]
      | false =>
        simp (disch := (first | assumption | omega | exact Nat.le_of_ble_eq_true rfl | rfl)) only [w65_0, w65_1, w65_3, w65_6, w65_9, w65_12, w65_13, w65_14, w65_16, w65_19, w65_22, w65_25, w65_26, w65_27, w65_30, w65_33, w65_36, w65_39, w65_40, w65_41, w65_44, w65_47, w65_50, w65_53, w65_54, w65_55, w65_58, w65_61, w65_64, w65_67, w65_68, w65_69, w65_72, w65_75, w65_78, w65_81, w65_84, w65_85, Ko_n, Ko_v, vX_i, vX_r, vX_l, vX_j, reduceIte, Bool.false_eq_true]
        rw [c42 (i := 16) rfl hR hf hs (by omega)]
        cases e : isWd f 16 s with
        | true => simp (disch := (first | assumption | omega | exact Nat.le_of_ble_eq_true rfl | rfl)) only [w65_0, w65_1, w65_3, w65_6, w65_9, w65_12, w65_13, w65_14, w65_16, w65_19, w65_22, w65_25, w65_26, w65_27, w65_30, w65_33, w65_36, w65_39, w65_40, w65_41, w65_44, w65_47, w65_50, w65_53, w65_54, w65_55, w65_58, w65_61, w65_64, w65_67, w65_68, w65_69, w65_72, w65_75, w65_78, w65_81, w65_84, w65_85, Ko_n, Ko_v, vX_i, vX_r, vX_l, vX_j, reduceIte, Int.reduceEq, Int.reduceNeg, Int.reduceAdd]
        | false =>
          simp (disch := (first | assumption | omega | exact Nat.le_of_ble_eq_true rfl | rfl)) only [w65_0, w65_1, w65_3, w65_6, w65_9, w65_12, w65_13, w65_14, w65_16, w65_19, w65_22, w65_25, w65_26, w65_27, w65_30, w65_33, w65_36, w65_39, w65_40, w65_41, w65_44, w65_47, w65_50, w65_53, w65_54, w65_55, w65_58, w65_61, w65_64, w65_67, w65_68, w65_69, w65_72, w65_75, w65_78, w65_81, w65_84, w65_85, Ko_n, Ko_v, vX_i, vX_r, vX_l, vX_j, reduceIte, Bool.false_eq_true]
          rw [c42 (i := 17) rfl hR hf hs (by omega)]
          cases e : isWd f 17 s with
          | true => simp (disch := (first | assumption | omega | exact Nat.le_of_ble_eq_true rfl | rfl)) only [w65_0, w65_1, w65_3, w65_6, w65_9, w65_12, w65_13, w65_14, w65_16, w65_19, w65_22, w65_25, w65_26, w65_27, w65_30, w65_33, w65_36, w65_39, w65_40, w65_41, w65_44, w65_47, w65_50, w65_53, w65_54, w65_55, w65_58, w65_61, w65_64, w65_67, w65_68, w65_69, w65_72, w65_75, w65_78, w65_81, w65_84, w65_85, Ko_n, Ko_v, vX_i, vX_r, vX_l, vX_j, reduceIte, Int.reduceEq, Int.reduceNeg, Int.reduceAdd]
          | false =>
            simp (disch := (first | assumption | omega | exact Nat.le_of_ble_eq_true rfl | rfl)) only [w65_0, w65_1, w65_3, w65_6, w65_9, w65_12, w65_13, w65_14, w65_16, w65_19, w65_22, w65_25, w65_26, w65_27, w65_30, w65_33, w65_36, w65_39, w65_40, w65_41, w65_44, w65_47, w65_50, w65_53, w65_54, w65_55, w65_58, w65_61, w65_64, w65_67, w65_68, w65_69, w65_72, w65_75, w65_78, w65_81, w65_84, w65_85, Ko_n, Ko_v, vX_i, vX_r, vX_l, vX_j, reduceIte, Bool.false_eq_true]
            rw [c42 (i := 18) rfl hR hf hs (by omega)]
            cases e : isWd f 18 s with
            | true => simp (disch := (first | assumption | omega | exact Nat.le_of_ble_eq_true rfl | rfl)) only [w65_0, w65_1, w65_3, w65_6, w65_9, w65_12, w65_13, w65_14, w65_16, w65_19, w65_22, w65_25, w65_26, w65_27, w65_30, w65_33, w65_36, w65_39, w65_40, w65_41, w65_44, w65_47, w65_50, w65_53, w65_54, w65_55, w65_58, w65_61, w65_64, w65_67, w65_68, w65_69, w65_72, w65_75, w65_78, w65_81, w65_84, w65_85, Ko_n, Ko_v, vX_i, vX_r, vX_l, vX_j, reduceIte, Int.reduceEq, Int.reduceNeg, Int.reduceAdd]
            | false => simp (disch := (first | assumption | omega | exact Nat.le_of_ble_eq_true rfl | rfl)) only [w65_0, w65_1, w65_3, w65_6, w65_9, w65_12, w65_13, w65_14, w65_16, w65_19, w65_22, w65_25, w65_26, w65_27, w65_30, w65_33, w65_36, w65_39, w65_40, w65_41, w65_44, w65_47, w65_50, w65_53, w65_54, w65_55, w65_58, w65_61, w65_64, w65_67, w65_68, w65_69, w65_72, w65_75, w65_78, w65_81, w65_84, w65_85, Ko_n, Ko_v, vX_i, vX_r, vX_l, vX_j, reduceIte, Bool.false_eq_true]
/-! what has a fault keeps it -/
def Fo (n D : Int) (F : Ps → Ps) : Prop := ∀ s, pO n s → kO s → pD s = D → flt s ≠ 0 → flt (F s) = flt s ∧ fpl (F s) = fpl s
theorem blm_f {n k : Int} {s : Ps} (hs : pO n s) (k0 : 1 ≤ k) (h : flt s ≠ 0) : flt (blm k s) = flt s ∧ fpl (blm k s) = fpl s := by
  have := flt_bl hs k0
  rwa [if_neg h, if_neg h] at this
theorem muS_f {f : Int → Int} {n c : Int} {s : Ps} (hs : pO n s) (c3 : c ≠ 3) (h : flt s ≠ 0) : flt (muS f n c s) = flt s ∧ fpl (muS f n c s) = fpl s := by
  rw [muS_e hs, isSg_n h c3, if_neg (by simp)]
  exact blm_f hs (by omega) h
theorem rdO_b {f : Int → Int} {n : Int} {s : Ps} (h : pB s ≠ 0) : rdO f n s = s := by unfold rdO; rw [if_neg h]
theorem lkN_fl {n lo hi : Int} {s : Ps} (hs : pO n s) (h : flt s ≠ 0) : flt (lkN lo hi s) = flt s ∧ fpl (lkN lo hi s) = fpl s := by
  unfold lkN
  split
  · split
    · exact ⟨rfl, rfl⟩
    · exact blm_f hs (by omega) h
  · exact blm_f hs (by omega) h
theorem nmb_f {f : Int → Int} {n lo hi : Int} {s : Ps} (hs : pO n s) (h : flt s ≠ 0) : flt (nmb f n lo hi s).2 = flt s ∧ fpl (nmb f n lo hi s).2 = fpl s := by
  have h1 := lkN_fl (lo := lo) (hi := hi) hs h
  have h2 : pB (lkN lo hi s) ≠ 0 := fun e => h (h1.1 ▸ (lkN_f hs).mpr e)
  show flt (rdO f n (lkN lo hi s)) = flt s ∧ fpl (rdO f n (lkN lo hi s)) = fpl s
  rw [rdO_b h2]
  exact h1
theorem cmS_f {f : Int → Int} {n : Int} {s : Ps} (hs : pO n s) (h : flt s ≠ 0) : flt (cmS f n s) = flt s ∧ fpl (cmS f n s) = fpl s := by
  unfold cmS
  rcases flt_n h with h1 | h1
  · have : blm 2 s = s := by unfold blm; rw [if_neg h1]
    rw [this]
    have : (if pT s = 61 ∨ pT s = 60 ∨ pT s = 62 then s else s) = s := by split <;> rfl
    rw [this, rdO_b h1]
    exact ⟨rfl, rfl⟩
  · rw [if_neg (by omega), rdO_b (blm_O hs (by omega) (by omega)).2]
    exact blm_f hs (by omega) h
theorem lwd_n {f : Int → Int} {s : Ps} (h : flt s ≠ 0) : lwd f s = -1 := by
  by_cases e : lwd f s = -1
  · exact e
  · have := lwd_h e
    rcases flt_n h with h1 | h1
    · exact absurd this.1 h1
    · omega
theorem Fo_atm {f : Int → Int} {n D : Int} {sub : Ps → Ps} : Fo n D (pAtm f n sub) := by
  intro s hs hk hd h
  unfold pAtm
  split
  · rw [if_pos (lwd_n h), isSg_n h (by omega), if_neg (by simp), flt_lay.1, flt_lay.2.1]
    exact nmb_f hs h
  · exact ⟨rfl, rfl⟩
theorem Fo_lp {n D : Int} {F : Ps → Ps} {c : Ps → Bool} {b : Ps → Ps} {m : Nat} (hc : ∀ s, flt s ≠ 0 → c s = false) (hF : Fo n D F) : Fo n D (fun s => lpG c b m (F s)) := by
  intro s hs hk hd h
  have h1 := hF s hs hk hd h
  show flt (lpG c b m (F s)) = flt s ∧ fpl (lpG c b m (F s)) = fpl s
  rw [lpG_0 (n := n) (hc _ (by rw [h1.1]; exact h))]
  exact h1
theorem Fo_unt {f : Int → Int} {n D : Int} {un tr sm : Ps → Ps} (hf : tpOk f n) (hL : rL n D sm) (hD : D ≤ 6) (hS : Fo n D sm) : Fo n D (pUnt f n un tr sm) := by
  intro s hs hk hd h
  unfold pUnt
  split
  · rw [isWd_n h, if_neg (by simp), isSg_n h (by omega), if_neg (by simp), flt_lay.1, flt_lay.2.1]
    have h1 := hS s hs hk hd h
    have l1 := hL s hs hk hd (fun z => by omega)
    have hn1 : flt (sm s) ≠ 0 := by rw [h1.1]; exact h
    have h2 := cmS_f (f := f) l1.1 hn1
    have l2 := Lo_cm hf l1.1
    have hn2 : flt (cmS f n (sm s)) ≠ 0 := by rw [h2.1]; exact hn1
    have h3 := hS _ l2.1 (Lo_k l2 (Lo_k l1 hk)) (by rw [l2.2.1, l1.2.1]; omega) hn2
    exact ⟨by rw [h3.1, h2.1, h1.1], by rw [h3.2, h2.2, h1.2]⟩
  · exact ⟨rfl, rfl⟩
theorem Fo_sm {f : Int → Int} {n D : Int} {sub : Ps → Ps} : Fo n D (pSm f n sub) :=
  Fo_lp (fun s h => by rw [isSg_n h (by omega), isSg_n h (by omega)]; rfl) (Fo_lp (fun s h => isSg_n h (by omega)) Fo_atm)
theorem Fo_tr {f : Int → Int} {n D : Int} {u : Ps → Ps} (h : Fo n D u) : Fo n D (pBth f n u) ∧ Fo n D (pTru f n u) :=
  ⟨Fo_lp (fun s h => isWd_n h) h, Fo_lp (fun s h => isWd_n h) (Fo_lp (fun s h => isWd_n h) h)⟩
theorem Fo_smD {f : Int → Int} {n D : Int} : ∀ m : Nat, Fo n D (smD f n m)
  | 0 => Fo_sm
  | m + 1 => Fo_sm
theorem Fo_unD {f : Int → Int} {n : Int} (hf : tpOk f n) (hL : ∀ m : Nat, m ≤ 6 → rL n (6 - m) (smD f n m)) : ∀ m : Nat, m ≤ 6 → Fo n (6 - m) (unD f n m)
  | 0, h => Fo_unt hf (hL 0 h) (by omega) (Fo_smD 0)
  | m + 1, h => Fo_unt hf (hL (m + 1) h) (by omega) (Fo_smD (m + 1))
