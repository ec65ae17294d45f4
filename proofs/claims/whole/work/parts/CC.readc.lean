/-! ===== the class reads a text ===== -/
def D0 (σ : St) : Prop := σ 400 77 0 = 0 ∧ σ 401 77 0 = 0 ∧ σ 402 77 0 = 0 ∧ σ 403 77 0 = 0 ∧ σ 404 77 0 = 0 ∧ σ 405 77 = (fun _ => 0) ∧ σ 301 81 0 = 0 ∧ (∀ w, 0 ≤ w → w < 5 → σ 406 77 w = 0) ∧ (∀ k, 0 ≤ k → k < 36 → σ 700 84 k = 0 ∧ σ 701 84 k = 0) ∧ σ 704 84 0 = 0 ∧ σ 705 84 0 = 0 ∧ σ 706 84 0 = 0
theorem stC_D {σ : St} : D0 (stC σ 76) := by
  unfold D0 stC scC plC
  refine ⟨?_, ?_, ?_, ?_, ?_, ?_, ?_, fun w w0 w1 => ?_, fun k k0 k1 => ?_, ?_, ?_, ?_⟩
  all_goals try simp (disch := omega) only [upA_s, upA_t, upA_o]
  · unfold fil; rw [if_pos ⟨w0, w1⟩]
  · unfold fil; rw [if_pos ⟨k0, k1⟩, if_pos ⟨k0, k1⟩]; exact ⟨rfl, rfl⟩
theorem stC_o {σ : St} {t o : Nat} (h6 : o ≠ 76) (h7 : o ≠ 77) (h8 : o ≠ 81) (h9 : o ≠ 84) : stC σ 76 t o = σ t o := by
  unfold stC scC plC
  simp (disch := omega) only [upA_o]
theorem D0_R {σ τ : St} (h : D0 σ) (hr : fR σ τ) : D0 τ := by
  unfold D0
  simp only [hr _ 77 (by omega), hr _ 81 (by omega), hr _ 84 (by omega)]
  exact h
theorem c49 {d : Nat} {k n : Int} {f : Int → Int} {T : Tt} {σ : St} {s : Ps} {Q : vmO → vmH → Prop} (hR : Rc f n σ s) (hD : D0 σ) (hf : tpOk f n) (h : fst0 n s) (hQ : ∀ τ, Rc f n τ (prk1 f n s) → Dc τ (prk1 f n s) → fW σ τ → Q (.inl none) (E T τ)) : Ca (d + 7) k 49 [.ref 75] (E T σ) Q := by
  have h0 := ob_rd
  have hp := ob_fp
  have hs := h.1
  have j0 := prk0_J hf h
  have hq : prk1 f n s = stpL f n (prk0 f n s) := rfl
  rw [hq] at hQ
  rw [n49 _ _ _ _ _ _ h0]
  have tl : ∀ τ s1, Mv n s s1 → s1 = (if isWd f 1 s then rdOn f n s else blm 2 s) → Rc f n τ s1 → fR σ τ → Wp (d + 7) M_X5_readPark 14 [.ref 75, vmJ, vmJ] [] (E T τ) Q := by
    intro τ s1 m1 he h1 h2
    have mx := Mv_nm (lo := 2) (hi := 6) hf m1.1
    have vx := nmb_v (f := f) (lo := 2) (hi := 6) m1.1
    have e00 : prk0 f n s = stK2 (fu (pK (nmb f n 2 6 (stK2 (fu (pK (nmb f n 2 6 s1).2) 1 (nmb f n 2 6 s1).1) (nmb f n 2 6 s1).2)).2) 2 (nmb f n 2 6 (stK2 (fu (pK (nmb f n 2 6 s1).2) 1 (nmb f n 2 6 s1).1) (nmb f n 2 6 s1).2)).1) (nmb f n 2 6 (stK2 (fu (pK (nmb f n 2 6 s1).2) 1 (nmb f n 2 6 s1).1) (nmb f n 2 6 s1).2)).2 := by
      unfold prk0
      dsimp only
      rw [← he]
    simp (disch := (first | assumption | omega | exact Nat.le_of_ble_eq_true rfl | rfl)) only [w49_0, w49_1, w49_3, w49_6, w49_9, w49_10, w49_11, w49_14, w49_15, w49_16, w49_18, w49_21, w49_22, w49_23, w49_24, w49_26, w49_29, w49_30, w49_31, w49_33, w49_36, w49_37, w49_40, w49_43, w49_44, w49_47, w49_48, w49_49, w49_52, w49_53, w49_56, w49_57, w49_60, Ko_n, Ko_v, vX_i, vX_r, vX_l, vX_j, reduceIte]
    refine c48 h1 hf m1.1 (by omega) (by omega) (by omega) (by omega) fun ρ x h3 h4 h5 h6 => ?_
    generalize nmb f n 2 6 s1 = X at *
    have ox : pO n (stK2 (fu (pK X.2) 1 X.1) X.2) := mx.1
    have h3' : Rc f n ρ (stK2 (fu (pK X.2) 1 X.1) X.2) := h3
    have fx : flt (stK2 (fu (pK X.2) 1 X.1) X.2) = flt X.2 := rfl
    have kx : pK (stK2 (fu (pK X.2) 1 X.1) X.2) = fu (pK X.2) 1 X.1 := rfl
    generalize stK2 (fu (pK X.2) 1 X.1) X.2 = X3 at *
    have my := Mv_nm (lo := 2) (hi := 6) hf ox
    have vy := nmb_v (f := f) (lo := 2) (hi := 6) ox
    have ff := fun z => nmb_ff (f := f) (lo := 2) (hi := 6) ox z
    simp (disch := (first | assumption | omega | exact Nat.le_of_ble_eq_true rfl | rfl)) only [w49_0, w49_1, w49_3, w49_6, w49_9, w49_10, w49_11, w49_14, w49_15, w49_16, w49_18, w49_21, w49_22, w49_23, w49_24, w49_26, w49_29, w49_30, w49_31, w49_33, w49_36, w49_37, w49_40, w49_43, w49_44, w49_47, w49_48, w49_49, w49_52, w49_53, w49_56, w49_57, w49_60, Ko_n, Ko_v, vX_i, vX_r, vX_l, vX_j, reduceIte]
    refine c48 h3' hf ox (by omega) (by omega) (by omega) (by omega) fun ω y h7 h8 h9 h10 => ?_
    generalize nmb f n 2 6 X3 = Y at *
    have h7' : Rc f n ω (prk0 f n s) := by rw [e00]; exact h7
    have fy : flt (prk0 f n s) = flt Y.2 := by rw [e00]; rfl
    have ky : pK (prk0 f n s) = fu (pK Y.2) 2 Y.1 := by rw [e00]; rfl
    clear e00
    simp (disch := (first | assumption | omega | exact Nat.le_of_ble_eq_true rfl | rfl)) only [w49_0, w49_1, w49_3, w49_6, w49_9, w49_10, w49_11, w49_14, w49_15, w49_16, w49_18, w49_21, w49_22, w49_23, w49_24, w49_26, w49_29, w49_30, w49_31, w49_33, w49_36, w49_37, w49_40, w49_43, w49_44, w49_47, w49_48, w49_49, w49_52, w49_53, w49_56, w49_57, w49_60, Ko_n, Ko_v, vX_i, vX_r, vX_l, vX_j, reduceIte]
    refine c46 h7' hf j0.1.1 (by omega) (by omega) fun χ h11 h12 => ?_
    have m := Mv_mu (c := 59) hf j0.1.1
    have hfi := flt_in m.1
    have fr := fR_t h2 (fR_t h4 (fR_t h8 h12))
    have hDx := D0_R hD fr
    unfold stpL at hQ
    dsimp only at hQ
    by_cases e : flt (muS f n 59 (prk0 f n s)) = 0
    · have ep : flt (prk0 f n s) = 0 := by
        by_cases e4 : flt (prk0 f n s) = 0
        · exact e4
        · rw [(muS_f j0.1.1 (by omega) e4).1] at e; exact e
      have ey : flt Y.2 = 0 := by rw [← fy]; exact ep
      have ex : flt X.2 = 0 := by rw [← fx]; exact ff ey
      have hx := h6 ex
      have hy := h10 ey
      have vx1 := vx.1 (flt_0 ex).1
      have vy1 := vy.1 (flt_0 ey).1
      rw [if_pos (flt_0 e).1] at hQ
      simp (disch := (first | assumption | omega | exact Nat.le_of_ble_eq_true rfl | rfl)) only [w49_0, w49_1, w49_3, w49_6, w49_9, w49_10, w49_11, w49_14, w49_15, w49_16, w49_18, w49_21, w49_22, w49_23, w49_24, w49_26, w49_29, w49_30, w49_31, w49_33, w49_36, w49_37, w49_40, w49_43, w49_44, w49_47, w49_48, w49_49, w49_52, w49_53, w49_56, w49_57, w49_60, Ko_n, Ko_v, vX_i, vX_r, vX_l, vX_j, reduceIte, h11.2.2.2.2.2.1, e, not_true, Nat.reduceAdd]
      refine c31 hp (W := x) (H := y) (by rw [hx, hy]; exact ⟨vx1.1, vx1.2.1, vy1.1, vy1.2.1⟩) fun υ g1 g2 => ?_
      simp (disch := (first | assumption | omega | exact Nat.le_of_ble_eq_true rfl | rfl)) only [w49_0, w49_1, w49_3, w49_6, w49_9, w49_10, w49_11, w49_14, w49_15, w49_16, w49_18, w49_21, w49_22, w49_23, w49_24, w49_26, w49_29, w49_30, w49_31, w49_33, w49_36, w49_37, w49_40, w49_43, w49_44, w49_47, w49_48, w49_49, w49_52, w49_53, w49_56, w49_57, w49_60, Ko_n, Ko_v, vX_i, vX_r, vX_l, vX_j, reduceIte, Nat.reduceAdd]
      have hK : pK (muS f n 59 (prk0 f n s)) = fu (fu (pK s) 1 x) 2 y := by
        rw [m.2.1, ky, my.2.1, kx, mx.2.1, m1.2.1, hx, hy]
      have hK0 : pK (stK2 (fu (pK (muS f n 59 (prk0 f n s))) 0 (pK (muS f n 59 (prk0 f n s)) 0 + 1)) (muS f n 59 (prk0 f n s))) = fu (fu (fu (pK s) 1 x) 2 y) 0 1 := by
        show fu (pK (muS f n 59 (prk0 f n s))) 0 (pK (muS f n 59 (prk0 f n s)) 0 + 1) = _
        rw [hK, fu_n (by omega), fu_n (by omega), h.2.2.2 0 (by omega) (by omega)]
        rfl
      obtain ⟨z0, z1, z2, z3, z4, z5, z6, z7, z8, z9, z10, z11⟩ := hDx
      have u : ∀ t, t ≠ 400 → t ≠ 401 → t ≠ 402 → t ≠ 410 → t ≠ 411 → t ≠ 412 → t ≠ 413 → (upA υ 400 77 fun _ => 1) t 77 = χ t 77 := fun t t0 t1 t2 t3 t4 t5 t6 => by rw [upA_t t0]; exact g2 t 77 (Or.inr ⟨t1, t2, t3, t4, t5, t6⟩)
      have uo : ∀ t o, o ≠ 77 → (upA υ 400 77 fun _ => 1) t o = χ t o := fun t o ho => by rw [upA_o ho]; exact g2 t o (Or.inl ho)
      have u1 : (upA υ 400 77 fun _ => 1) 401 77 = υ 401 77 := upA_t (by omega)
      have u2 : (upA υ 400 77 fun _ => 1) 402 77 = υ 402 77 := upA_t (by omega)
      have k : ∀ j, 0 ≤ j → j < 1900 → j ≠ 0 → j ≠ 1 → j ≠ 2 → fu (fu (fu (pK s) 1 x) 2 y) 0 1 j = 0 := fun j a b c dd ee => by rw [fu_n c, fu_n ee, fu_n dd, h.2.2.2 j a b]
      have k1 : fu (fu (fu (pK s) 1 x) 2 y) 0 1 1 = x := by rw [fu_n (by omega), fu_n (by omega), fu_s]
      have k2 : fu (fu (fu (pK s) 1 x) 2 y) 0 1 2 = y := by rw [fu_n (by omega), fu_s]
      refine hQ _ (Rc_o (s := stK2 (fu (pK (muS f n 59 (prk0 f n s))) 0 (pK (muS f n 59 (prk0 f n s)) 0 + 1)) (muS f n 59 (prk0 f n s))) h11 (fun t => uo t 75 (by omega)) (uo 1100 0 (by omega))) ⟨?_, ?_, ?_, ?_, ?_, fun _ => ⟨⟨?_, ?_, ?_, ?_, ?_, ?_, ?_, fun w w0 w1 => ?_, fun w e w0 w1 e0 e1 => ?_, ?_, fun i i0 i1 => ?_⟩, ?_⟩⟩ (fun t o a b c dd => by rw [uo t o b]; exact fr t o a)
      · rw [u1, g1.1, hx]; omega
      · rw [u2, g1.2.1, hy]; omega
      · rw [u 404 (by omega) (by omega) (by omega) (by omega) (by omega) (by omega) (by omega), z4]; omega
      · rw [uo 301 81 (by omega), z6]; omega
      · rw [u 405 (by omega) (by omega) (by omega) (by omega) (by omega) (by omega) (by omega), z5]
      · rw [hK0, fu_s, upA_s]
      · rw [hK0, k1, u1]; exact g1.1
      · rw [hK0, k2, u2]; exact g1.2.1
      · rw [hK0, k 3 (by omega) (by omega) (by omega) (by omega) (by omega), u 404 (by omega) (by omega) (by omega) (by omega) (by omega) (by omega) (by omega)]; exact z4
      · rw [hK0, k 4 (by omega) (by omega) (by omega) (by omega) (by omega), u 403 (by omega) (by omega) (by omega) (by omega) (by omega) (by omega) (by omega)]; exact z3
      · rw [hK0, k 5 (by omega) (by omega) (by omega) (by omega) (by omega), uo 301 81 (by omega)]; exact z6
      · rw [hK0, k 92 (by omega) (by omega) (by omega) (by omega) (by omega), u 405 (by omega) (by omega) (by omega) (by omega) (by omega) (by omega) (by omega), z5]
      · rw [hK0, k (93 + w) (by omega) (by omega) (by omega) (by omega) (by omega), u 406 (by omega) (by omega) (by omega) (by omega) (by omega) (by omega) (by omega)]; exact z7 w w0 w1
      · rw [hK0, k (93 + w) (by omega) (by omega) (by omega) (by omega) (by omega)] at e1; omega
      · rw [hK0, k1, k2]
        unfold geo at g1 ⊢
        rw [upA_t (by omega), upA_t (by omega), upA_t (by omega), upA_t (by omega), upA_t (by omega), upA_t (by omega)]
        exact g1
      · rw [hK0, k 5 (by omega) (by omega) (by omega) (by omega) (by omega)] at i1; omega
      · rw [hK0, tsc_W]
        refine ⟨fun q q0 q1 => ?_, fun w w0 w1 => ?_, ?_, ?_, ?_⟩
        · rw [uo 700 84 (by omega), uo 701 84 (by omega), k (7 + q) (by omega) (by omega) (by omega) (by omega) (by omega), k (43 + q) (by omega) (by omega) (by omega) (by omega) (by omega)]; exact z8 q q0 q1
        · rw [k 3 (by omega) (by omega) (by omega) (by omega) (by omega)] at w1; omega
        · rw [uo 704 84 (by omega), k 89 (by omega) (by omega) (by omega) (by omega) (by omega)]; exact z9
        · rw [uo 705 84 (by omega), k 90 (by omega) (by omega) (by omega) (by omega) (by omega)]; exact z10
        · rw [uo 706 84 (by omega), k 91 (by omega) (by omega) (by omega) (by omega) (by omega)]; exact z11
    · simp (disch := (first | assumption | omega | exact Nat.le_of_ble_eq_true rfl | rfl)) only [w49_0, w49_1, w49_3, w49_6, w49_9, w49_10, w49_11, w49_14, w49_15, w49_16, w49_18, w49_21, w49_22, w49_23, w49_24, w49_26, w49_29, w49_30, w49_31, w49_33, w49_36, w49_37, w49_40, w49_43, w49_44, w49_47, w49_48, w49_49, w49_52, w49_53, w49_56, w49_57, w49_60, Ko_n, Ko_v, vX_i, vX_r, vX_l, vX_j, reduceIte, h11.2.2.2.2.2.1, e, not_false_eq_true]
      have q : ∀ K, flt (if pB (muS f n 59 (prk0 f n s)) = 0 then stK2 K (muS f n 59 (prk0 f n s)) else muS f n 59 (prk0 f n s)) ≠ 0 := by
        intro K
        split
        · exact e
        · exact e
      have q2 : ∀ K, Rc f n χ (if pB (muS f n 59 (prk0 f n s)) = 0 then stK2 K (muS f n 59 (prk0 f n s)) else muS f n 59 (prk0 f n s)) := by
        intro K
        split
        · exact h11
        · exact h11
      obtain ⟨z0, z1, z2, z3, z4, z5, z6, z7, z8, z9, z10, z11⟩ := hDx
      exact hQ χ (q2 _) ⟨by rw [z1]; omega, by rw [z2]; omega, by rw [z4]; omega, by rw [z6]; omega, by rw [z5], fun z => absurd z (q _)⟩ (fR_W fr)
  simp (disch := (first | assumption | omega | exact Nat.le_of_ble_eq_true rfl | rfl)) only [w49_0, w49_1, w49_3, w49_6, w49_9, w49_10, w49_11, Ko_n, Ko_v, vX_i, vX_r, vX_l, vX_j, reduceIte]
  refine c44 (i := 1) rfl hR hf hs (by omega) (fun w τ h1 h2 => ?_) (fun w => ?_)
  · simp (disch := (first | assumption | omega | exact Nat.le_of_ble_eq_true rfl | rfl)) only [w49_0, w49_1, w49_3, w49_6, w49_9, w49_10, w49_11, Ko_n, Ko_v, vX_i, vX_r, vX_l, vX_j, reduceIte, Int.reduceEq, not_false_eq_true]
    exact tl τ _ (Mv_rd hf hs) (by rw [if_pos w]) h1 h2
  · simp (disch := (first | assumption | omega | exact Nat.le_of_ble_eq_true rfl | rfl)) only [w49_0, w49_1, w49_3, w49_6, w49_9, w49_10, w49_11, Ko_n, Ko_v, vX_i, vX_r, vX_l, vX_j, reduceIte, not_true]
    refine c39 hR hs (by omega) fun τ h1 h2 => ?_
    simp (disch := (first | assumption | omega | exact Nat.le_of_ble_eq_true rfl | rfl)) only [w49_0, w49_1, w49_3, w49_6, w49_9, w49_10, w49_11, Ko_n, Ko_v, vX_i, vX_r, vX_l, vX_j, reduceIte]
    exact tl τ _ (Mv_bl hs (by omega) (by omega)) (by rw [w, if_neg Bool.false_ne_true]) h1 h2
theorem lin_f {f : Int → Int} {n : Int} {s : Ps} (hf : tpOk f n) (hs : pO n s) (h : flt s ≠ 0) : flt (lin f n s) = flt s ∧ fpl (lin f n s) = fpl s ∧ pB (lin f n s) ≠ 0 := by
  have e0 : lin f n s = stpL f n (blm 2 s) := by
    show stpL f n (lin0 f n s) = _
    unfold lin0
    rw [isWd_n h, isWd_n h, isWd_n h, isWd_n h, isWd_n h, isWd_n h]
    rfl
  have hB := blm_O hs (k := 2) (by omega) (by omega)
  have h1 := blm_f hs (k := 2) (by omega) h
  have h2 := muS_f (f := f) (c := 59) hB.1 (by omega) (by rw [h1.1]; exact h)
  have h3 : pB (muS f n 59 (blm 2 s)) ≠ 0 := by
    unfold muS
    rw [rdO_B]
    split
    · exact hB.2
    · exact (blm_O hB.1 (by omega) (by omega)).2
  rw [e0]
  unfold stpL
  dsimp only
  rw [if_neg h3]
  exact ⟨by rw [h2.1, h1.1], by rw [h2.2, h1.2], h3⟩
theorem c38 {d : Nat} {k n : Int} {f : Int → Int} {T : Tt} {σ σ2 : St} {s : Ps} {Q : vmO → vmH → Prop} (hF2 : σ2 1205 382 = f) (hn2 : σ2 1207 382 0 = n) (hF : σ 1100 0 = f) (hf : tpOk f n) (hb : pB s = 0) (hh : pH s = 0) (hv : 0 ≤ pV s ∧ pV s ≤ 999) (hd : pD s = 0) (hK : ∀ j, 0 ≤ j → j < 1900 → pK s j = 0) (hQ : ∀ τ, Rc f n τ (prk f n s) → Dc τ (prk f n s) → (τ 803 76 0 = 0 ∧ τ 804 76 0 = 0) → (∀ t o, o ≠ 75 → o ≠ 76 → o ≠ 77 → o ≠ 81 → o ≠ 84 → τ t o = σ t o) → Q (.inl none) (E T τ)) : Ca (d + 35) k 38 [.ref 75, .ref (A 1100 0), .int (i32 n)] (E T σ) Q := by
  have h0 := ob_rd
  have hhp := ob_hp
  have hfr := ob_fr
  have hn9 := hf.2
  have hA3 : A 1100 0 < 3000000 := by decide
  rw [n38 _ _ _ _ _ _ _ _ h0]
  simp (disch := (first | assumption | omega | exact Nat.le_of_ble_eq_true rfl | rfl)) only [w38_0, w38_1, w38_2, w38_5, w38_6, w38_7, w38_10, w38_11, w38_12, w38_15, w38_16, w38_17, w38_18, w38_21, w38_22, w38_25, w38_28, w38_29, w38_30, w38_33, w38_34, w38_37, w38_40, w38_41, w38_44, w38_45, w38_48, w38_49, Ko_n, Ko_v, vX_i, vX_r, vX_l, vX_j, reduceIte, upA_s, upA_t, Int.toNat_natCast, show min n ((900 : Nat) : Int) = n by omega, Nat.reduceAdd]
  rw [c83 hfr]
  have f0 := rd_0 (s := s) hf hb hh hv hd hK
  simp (disch := (first | assumption | omega | exact Nat.le_of_ble_eq_true rfl | rfl)) only [w38_0, w38_1, w38_2, w38_5, w38_6, w38_7, w38_10, w38_11, w38_12, w38_15, w38_16, w38_17, w38_18, w38_21, w38_22, w38_25, w38_28, w38_29, w38_30, w38_33, w38_34, w38_37, w38_40, w38_41, w38_44, w38_45, w38_48, w38_49, Ko_n, Ko_v, vX_i, vX_r, vX_l, vX_j, reduceIte]
  refine c40g (s := s) (n := n) (f := f) ?_ ?_ ?_ ?_ ?_ ?_ hf hb (by omega) (by omega) fun τ h1 h2 => ?_
  · rw [stC_o (by omega) (by omega) (by omega) (by omega)]; simp (disch := omega) only [upA_s, upA_t]; rfl
  · rw [stC_o (by omega) (by omega) (by omega) (by omega)]; simp (disch := omega) only [upA_s, upA_t]
  · rw [stC_o (by omega) (by omega) (by omega) (by omega)]; simp (disch := omega) only [upA_s, upA_t]; exact hF
  · rw [stC_o (by omega) (by omega) (by omega) (by omega)]; simp (disch := omega) only [upA_s, upA_t]
  · rw [stC_o (by omega) (by omega) (by omega) (by omega)]; simp (disch := omega) only [upA_s, upA_t]
  · rw [stC_o (by omega) (by omega) (by omega) (by omega)]; simp (disch := omega) only [upA_s, upA_t]; exact hh.symm
  simp (disch := (first | assumption | omega | exact Nat.le_of_ble_eq_true rfl | rfl)) only [w38_0, w38_1, w38_2, w38_5, w38_6, w38_7, w38_10, w38_11, w38_12, w38_15, w38_16, w38_17, w38_18, w38_21, w38_22, w38_25, w38_28, w38_29, w38_30, w38_33, w38_34, w38_37, w38_40, w38_41, w38_44, w38_45, w38_48, w38_49, Ko_n, Ko_v, vX_i, vX_r, vX_l, vX_j, reduceIte]
  refine c49 h1 (D0_R stC_D h2) hf f0 fun ρ h3 h4 h5 => ?_
  have hp : prk f n s = lpG (fun s => decide (pB s = 0 ∧ pT s ≠ 0)) (lin f n) 901 (prk1 f n (rdOn f n s)) := rfl
  have m1 := prk1_M hf f0
  rw [hp] at hQ
  have fin : ∀ ω, fW ρ ω → (ω 803 76 0 = 0 ∧ ω 804 76 0 = 0) ∧ (∀ t o, o ≠ 75 → o ≠ 76 → o ≠ 77 → o ≠ 81 → o ≠ 84 → ω t o = σ t o) := by
    intro ω hw
    refine ⟨?_, fun t o a b c dd ee => ?_⟩
    · rw [hw 803 76 (by omega) (by omega) (by omega) (by omega), hw 804 76 (by omega) (by omega) (by omega) (by omega), h5 803 76 (by omega) (by omega) (by omega) (by omega), h5 804 76 (by omega) (by omega) (by omega) (by omega), h2 803 76 (by omega), h2 804 76 (by omega)]
      unfold stC
      rw [upA_t (by omega), upA_s, upA_s]
      exact ⟨rfl, rfl⟩
    · rw [hw t o a c dd ee, h5 t o a c dd ee, h2 t o a, stC_o b c dd ee, upA_o a, upA_o a, upA_o a, upA_o a, upA_o a]
  generalize prk1 f n (rdOn f n s) = s1 at *
  have loop : ∀ (m j : Nat) (ω : St) (s : Ps), Rc f n ω s → Dc ω s → mL n s → (pB s = 0 → n - pG s ≤ m) → (pB s = 0 → (j : Int) + (n - pG s) ≤ 900) → (j : Int) ≤ 900 → fW ρ ω → (∀ τ, Rc f n τ (lpG (fun s => decide (pB s = 0 ∧ pT s ≠ 0)) (lin f n) m s) → Dc τ (lpG (fun s => decide (pB s = 0 ∧ pT s ≠ 0)) (lin f n) m s) → fW ρ τ → Q (.inl none) (E T τ)) → Wp (d + 35) M_X5_read 50 [.ref 75, .ref (A 1100 0), .int (i32 n), .int (i32 j)] [] (E T ω) Q := by
    intro m
    induction m with
    | zero =>
      intro j ω s g1 g2 g3 g4 g5 g6 g7 hQ
      have hfi := flt_in g3.1.1
      rw [w38_50]
      by_cases e1 : (900 : Int) ≤ j
      · simp (disch := (first | assumption | omega | exact Nat.le_of_ble_eq_true rfl | rfl)) only [w38_0, w38_1, w38_2, w38_5, w38_6, w38_7, w38_10, w38_11, w38_12, w38_15, w38_16, w38_17, w38_18, w38_21, w38_22, w38_25, w38_28, w38_29, w38_30, w38_33, w38_34, w38_37, w38_40, w38_41, w38_44, w38_45, w38_48, w38_49, w38_51, w38_54, w38_57, w38_58, w38_61, w38_64, w38_65, w38_68, w38_71, w38_72, w38_75, w38_78, w38_81, Ko_n, Ko_v, vX_i, vX_r, vX_l, vX_j, reduceIte, e1]
        exact hQ ω g1 g2 g7
      · by_cases e2 : flt s = 0
        · have a8 := g1.2.2.2.2.2.2.2 e2
          have e3 : pT s = 0 := by
            by_cases e3 : pT s = 0
            · exact e3
            · have := g3.1.1.2.2.2.2.1 (flt_0 e2).1 e3
              have := g4 (flt_0 e2).1
              have := g3.1.1.2.2.1
              omega
          have e4 : soP s = 0 := by unfold soP; rw [if_pos e3]
          simp (disch := (first | assumption | omega | exact Nat.le_of_ble_eq_true rfl | rfl)) only [w38_0, w38_1, w38_2, w38_5, w38_6, w38_7, w38_10, w38_11, w38_12, w38_15, w38_16, w38_17, w38_18, w38_21, w38_22, w38_25, w38_28, w38_29, w38_30, w38_33, w38_34, w38_37, w38_40, w38_41, w38_44, w38_45, w38_48, w38_49, w38_51, w38_54, w38_57, w38_58, w38_61, w38_64, w38_65, w38_68, w38_71, w38_72, w38_75, w38_78, w38_81, Ko_n, Ko_v, vX_i, vX_r, vX_l, vX_j, reduceIte, e1, g1.2.2.2.2.2.1, e2, a8.2.2.1, e4, not_true]
          exact hQ ω g1 g2 g7
        · simp (disch := (first | assumption | omega | exact Nat.le_of_ble_eq_true rfl | rfl)) only [w38_0, w38_1, w38_2, w38_5, w38_6, w38_7, w38_10, w38_11, w38_12, w38_15, w38_16, w38_17, w38_18, w38_21, w38_22, w38_25, w38_28, w38_29, w38_30, w38_33, w38_34, w38_37, w38_40, w38_41, w38_44, w38_45, w38_48, w38_49, w38_51, w38_54, w38_57, w38_58, w38_61, w38_64, w38_65, w38_68, w38_71, w38_72, w38_75, w38_78, w38_81, Ko_n, Ko_v, vX_i, vX_r, vX_l, vX_j, reduceIte, e1, g1.2.2.2.2.2.1, e2, not_false_eq_true]
          exact hQ ω g1 g2 g7
    | succ m ih =>
      intro j ω s g1 g2 g3 g4 g5 g6 g7 hQ
      have hfi := flt_in g3.1.1
      rw [w38_50]
      by_cases e2 : flt s = 0
      · have a8 := g1.2.2.2.2.2.2.2 e2
        have hb := (flt_0 e2).1
        by_cases e3 : pT s = 0
        · rw [lpG_0 (n := n) (decide_eq_false fun w => w.2 e3)] at hQ
          have e4 : soP s = 0 := by unfold soP; rw [if_pos e3]
          by_cases e1 : (900 : Int) ≤ j
          · simp (disch := (first | assumption | omega | exact Nat.le_of_ble_eq_true rfl | rfl)) only [w38_0, w38_1, w38_2, w38_5, w38_6, w38_7, w38_10, w38_11, w38_12, w38_15, w38_16, w38_17, w38_18, w38_21, w38_22, w38_25, w38_28, w38_29, w38_30, w38_33, w38_34, w38_37, w38_40, w38_41, w38_44, w38_45, w38_48, w38_49, w38_51, w38_54, w38_57, w38_58, w38_61, w38_64, w38_65, w38_68, w38_71, w38_72, w38_75, w38_78, w38_81, Ko_n, Ko_v, vX_i, vX_r, vX_l, vX_j, reduceIte, e1]
            exact hQ ω g1 g2 g7
          · simp (disch := (first | assumption | omega | exact Nat.le_of_ble_eq_true rfl | rfl)) only [w38_0, w38_1, w38_2, w38_5, w38_6, w38_7, w38_10, w38_11, w38_12, w38_15, w38_16, w38_17, w38_18, w38_21, w38_22, w38_25, w38_28, w38_29, w38_30, w38_33, w38_34, w38_37, w38_40, w38_41, w38_44, w38_45, w38_48, w38_49, w38_51, w38_54, w38_57, w38_58, w38_61, w38_64, w38_65, w38_68, w38_71, w38_72, w38_75, w38_78, w38_81, Ko_n, Ko_v, vX_i, vX_r, vX_l, vX_j, reduceIte, e1, g1.2.2.2.2.2.1, e2, a8.2.2.1, e4, not_true]
            exact hQ ω g1 g2 g7
        · have lt := g3.1.1.2.2.2.2.1 hb e3
          have l3 := g3.1.1.2.2.1
          have l4 := g4 hb
          have l5 := g5 hb
          have lm := lin_M hF2 hn2 hf g3
          have e4 : ¬ soP s = 0 := by unfold soP; rw [if_neg e3]; repeat' split <;> omega
          have a4 := g1.2.2.2.1
          rw [a8.2.2.1] at a4
          rw [show lpG (fun s => decide (pB s = 0 ∧ pT s ≠ 0)) (lin f n) (m + 1) s = lpG (fun s => decide (pB s = 0 ∧ pT s ≠ 0)) (lin f n) m (lin f n s) by simp only [lpG]; rw [if_pos (decide_eq_true ⟨hb, e3⟩)]] at hQ
          simp (disch := (first | assumption | omega | exact Nat.le_of_ble_eq_true rfl | rfl)) only [w38_0, w38_1, w38_2, w38_5, w38_6, w38_7, w38_10, w38_11, w38_12, w38_15, w38_16, w38_17, w38_18, w38_21, w38_22, w38_25, w38_28, w38_29, w38_30, w38_33, w38_34, w38_37, w38_40, w38_41, w38_44, w38_45, w38_48, w38_49, w38_51, w38_54, w38_57, w38_58, w38_61, w38_64, w38_65, w38_68, w38_71, w38_72, w38_75, w38_78, w38_81, Ko_n, Ko_v, vX_i, vX_r, vX_l, vX_j, reduceIte, show ¬ (900 : Int) ≤ (j : Int) by omega, g1.2.2.2.2.2.1, e2, a8.2.2.1, e4, not_true]
          refine c50 hF2 hn2 g1 g2 hf g3.1 e2 fun χ q1 q2 q3 => ?_
          simp (disch := (first | assumption | omega | exact Nat.le_of_ble_eq_true rfl | rfl)) only [w38_0, w38_1, w38_2, w38_5, w38_6, w38_7, w38_10, w38_11, w38_12, w38_15, w38_16, w38_17, w38_18, w38_21, w38_22, w38_25, w38_28, w38_29, w38_30, w38_33, w38_34, w38_37, w38_40, w38_41, w38_44, w38_45, w38_48, w38_49, w38_51, w38_54, w38_57, w38_58, w38_61, w38_64, w38_65, w38_68, w38_71, w38_72, w38_75, w38_78, w38_81, Ko_n, Ko_v, vX_i, vX_r, vX_l, vX_j, reduceIte]
          exact ih (j + 1) χ _ q1 q2 lm.1 (fun z => by have := (lm.2 z).2; omega) (fun z => by have := (lm.2 z).2; omega) (by omega) (fW_t g7 q3) hQ
      · have key : ∀ m : Nat, flt (lpG (fun s => decide (pB s = 0 ∧ pT s ≠ 0)) (lin f n) m s) = flt s ∧ fpl (lpG (fun s => decide (pB s = 0 ∧ pT s ≠ 0)) (lin f n) m s) = fpl s := by
          intro m
          cases m with
          | zero => exact ⟨rfl, rfl⟩
          | succ m =>
            simp only [lpG]
            split
            · have q := lin_f hf g3.1.1 e2
              rw [lpG_0 (n := n) (decide_eq_false fun w => q.2.2 w.1)]
              exact ⟨q.1, q.2.1⟩
            · exact ⟨rfl, rfl⟩
        have kk := key (m + 1)
        by_cases e1 : (900 : Int) ≤ j
        · simp (disch := (first | assumption | omega | exact Nat.le_of_ble_eq_true rfl | rfl)) only [w38_0, w38_1, w38_2, w38_5, w38_6, w38_7, w38_10, w38_11, w38_12, w38_15, w38_16, w38_17, w38_18, w38_21, w38_22, w38_25, w38_28, w38_29, w38_30, w38_33, w38_34, w38_37, w38_40, w38_41, w38_44, w38_45, w38_48, w38_49, w38_51, w38_54, w38_57, w38_58, w38_61, w38_64, w38_65, w38_68, w38_71, w38_72, w38_75, w38_78, w38_81, Ko_n, Ko_v, vX_i, vX_r, vX_l, vX_j, reduceIte, e1]
          exact hQ ω (Rc_f g1 e2 kk.1 kk.2) (Dc_f g2 (by rw [kk.1]; exact e2)) g7
        · simp (disch := (first | assumption | omega | exact Nat.le_of_ble_eq_true rfl | rfl)) only [w38_0, w38_1, w38_2, w38_5, w38_6, w38_7, w38_10, w38_11, w38_12, w38_15, w38_16, w38_17, w38_18, w38_21, w38_22, w38_25, w38_28, w38_29, w38_30, w38_33, w38_34, w38_37, w38_40, w38_41, w38_44, w38_45, w38_48, w38_49, w38_51, w38_54, w38_57, w38_58, w38_61, w38_64, w38_65, w38_68, w38_71, w38_72, w38_75, w38_78, w38_81, Ko_n, Ko_v, vX_i, vX_r, vX_l, vX_j, reduceIte, e1, g1.2.2.2.2.2.1, e2, not_false_eq_true]
          exact hQ ω (Rc_f g1 e2 kk.1 kk.2) (Dc_f g2 (by rw [kk.1]; exact e2)) g7
  simp (disch := (first | assumption | omega | exact Nat.le_of_ble_eq_true rfl | rfl)) only [w38_0, w38_1, w38_2, w38_5, w38_6, w38_7, w38_10, w38_11, w38_12, w38_15, w38_16, w38_17, w38_18, w38_21, w38_22, w38_25, w38_28, w38_29, w38_30, w38_33, w38_34, w38_37, w38_40, w38_41, w38_44, w38_45, w38_48, w38_49, Ko_n, Ko_v, vX_i, vX_r, vX_l, vX_j, reduceIte]
  exact loop 901 0 ρ s1 h3 h4 m1 (fun _ => by have := m1.1.1.2.2.1; omega) (fun _ => by have := m1.1.1.2.2.1; omega) (by omega) (fun _ _ _ _ _ _ => rfl) (fun ω q1 q2 q3 => hQ ω q1 q2 (fin ω q3).1 (fin ω q3).2)
