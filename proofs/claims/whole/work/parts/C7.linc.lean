/-! ===== the class reads lines ===== -/
def Dc (σ : St) (s : Ps) : Prop := (0 ≤ σ 401 77 0 ∧ σ 401 77 0 ≤ 6) ∧ (0 ≤ σ 402 77 0 ∧ σ 402 77 0 ≤ 6) ∧ (0 ≤ σ 404 77 0 ∧ σ 404 77 0 ≤ 5) ∧ (0 ≤ σ 301 81 0 ∧ σ 301 81 0 ≤ 900) ∧ σ 405 77 = (fun _ => σ 405 77 0) ∧ (flt s = 0 → tpl σ 77 (pK s) ∧ tsc σ 84 (pK s) 7)
def fW (σ τ : St) : Prop := ∀ t o, o ≠ 75 → o ≠ 77 → o ≠ 81 → o ≠ 84 → τ t o = σ t o
theorem fW_t {σ τ ρ : St} (h1 : fW σ τ) (h2 : fW τ ρ) : fW σ ρ := fun t o a b c d => (h2 t o a b c d).trans (h1 t o a b c d)
theorem fR_W {σ τ : St} (h : fR σ τ) : fW σ τ := fun t o a _ _ _ => h t o a
theorem tpl_o {σ τ : St} {K : Int → Int} (h7 : ∀ t, τ t 77 = σ t 77) (h8 : ∀ t, τ t 81 = σ t 81) (h : tpl σ 77 K) : tpl τ 77 K := by
  unfold tpl geo at h ⊢
  simp only [h7, show ∀ t, τ t (77 + 4) = σ t (77 + 4) from h8]
  exact h
theorem tsc_o {σ τ : St} {K : Int → Int} (h8 : ∀ t, τ t 84 = σ t 84) (h : tsc σ 84 K 7) : tsc τ 84 K 7 := by
  unfold tsc at h ⊢
  simp only [h8]
  exact h
theorem Dc_R {σ τ : St} {s s' : Ps} (h : Dc σ s) (hr : fR σ τ) (hf : flt s' = 0 → flt s = 0) (hk : pK s' = pK s) : Dc τ s' := by
  obtain ⟨a1, a2, a3, a4, a5, a6⟩ := h
  have q7 : ∀ t, τ t 77 = σ t 77 := fun t => hr t 77 (by omega)
  have q8 : ∀ t, τ t 81 = σ t 81 := fun t => hr t 81 (by omega)
  refine ⟨by rw [q7]; exact a1, by rw [q7]; exact a2, by rw [q7]; exact a3, by rw [q8]; exact a4, by rw [q7]; exact a5, fun e => ?_⟩
  have a := a6 (hf e)
  rw [hk]
  exact ⟨tpl_o q7 q8 a.1, tsc_o (fun t => hr t 84 (by omega)) a.2⟩
theorem Dc_f {σ : St} {s s' : Ps} (h : Dc σ s) (h0 : flt s' ≠ 0) : Dc σ s' := ⟨h.1, h.2.1, h.2.2.1, h.2.2.2.1, h.2.2.2.2.1, fun e => absurd e h0⟩
theorem c47x {d : Nat} {k lo hi hi' n : Int} {f : Int → Int} {T : Tt} {σ : St} {s : Ps} {Q : vmO → vmH → Prop} (hR : Rc f n σ s) (hs : pO n s) (hh : flt s = 0 → hi' = hi) (l0 : -1000 ≤ lo) (l1 : lo ≤ 1000) (m0 : -1000 ≤ hi') (m1 : hi' ≤ 1000) (hQ : ∀ τ v, Rc f n τ (lkN lo hi s) → fR σ τ → (0 ≤ v ∧ v ≤ 999) → (flt (lkN lo hi s) = 0 → v = pV s) → Q (.inl (some (.int (i32 v)))) (E T τ)) : Ca (d + 1) k 47 [.ref 75, .int (i32 lo), .int (i32 hi')] (E T σ) Q := by
  have hv := hs.2.2.2.1
  refine c47 hR hs l0 l1 m0 m1 fun τ h1 h2 => ?_
  by_cases e : flt s = 0
  · rw [hh e] at h1 ⊢
    refine hQ τ _ h1 h2 ?_ (fun z => by rw [if_pos ((lkN_f hs).mp z)])
    split <;> omega
  · have q1 := lkN_fl (lo := lo) (hi := hi) hs e
    have q2 := lkN_fl (lo := lo) (hi := hi') hs e
    refine hQ τ _ (Rc_f h1 (by rw [q2.1]; exact e) (by rw [q1.1, q2.1]) (by rw [q1.2, q2.2])) h2 ?_ (fun z => by rw [q1.1] at z; exact absurd z e)
    split <;> omega
theorem c48x {d : Nat} {k lo hi hi' n : Int} {f : Int → Int} {T : Tt} {σ : St} {s : Ps} {Q : vmO → vmH → Prop} (hR : Rc f n σ s) (hf : tpOk f n) (hs : pO n s) (hh : flt s = 0 → hi' = hi) (l0 : -1000 ≤ lo) (l1 : lo ≤ 1000) (m0 : -1000 ≤ hi') (m1 : hi' ≤ 1000) (hQ : ∀ τ v, Rc f n τ (nmb f n lo hi s).2 → fR σ τ → (0 ≤ v ∧ v ≤ 999) → (flt (nmb f n lo hi s).2 = 0 → v = (nmb f n lo hi s).1) → Q (.inl (some (.int (i32 v)))) (E T τ)) : Ca (d + 5) k 48 [.ref 75, .int (i32 lo), .int (i32 hi')] (E T σ) Q := by
  refine c48 hR hf hs l0 l1 m0 m1 fun τ v h1 h2 h3 h4 => ?_
  by_cases e : flt s = 0
  · rw [hh e] at h1 h4
    exact hQ τ v h1 h2 h3 h4
  · have q1 := nmb_f (f := f) (lo := lo) (hi := hi) hs e
    have q2 := nmb_f (f := f) (lo := lo) (hi := hi') hs e
    exact hQ τ v (Rc_f h1 (by rw [q2.1]; exact e) (by rw [q1.1, q2.1]) (by rw [q1.2, q2.2])) h2 h3 (fun z => by rw [q1.1] at z; exact absurd z e)
/-- no fault behind a number: none ahead -/
theorem nmb_ff {f : Int → Int} {n lo hi : Int} {s : Ps} (hs : pO n s) (h : flt (nmb f n lo hi s).2 = 0) : flt s = 0 := by
  by_cases e : flt s = 0
  · exact e
  · rw [(nmb_f hs e).1] at h; exact h
theorem c51 {d : Nat} {k n : Int} {f : Int → Int} {T : Tt} {σ : St} {s : Ps} {Q : vmO → vmH → Prop} (hR : Rc f n σ s) (hD : Dc σ s) (hf : tpOk f n) (hs : pO n s) (ht : tW (pK s)) (hQ : ∀ τ v, Rc f n τ (celP f n s).2 → fR σ τ → (0 ≤ v ∧ v < 36) → (flt (celP f n s).2 = 0 → v = (celP f n s).1 ∧ flt s = 0) → Q (.inl (some (.int (i32 v)))) (E T τ)) : Ca (d + 6) k 51 [.ref 75] (E T σ) Q := by
  have h0 := ob_rd
  have hp := ob_fp
  have hc := cel_in hf hs ht
  have e1 := ht.1
  have e2 := ht.2.1
  have hm := wh_mul (W := pK s 1) (H := pK s 2) ⟨e1.1, e1.2, e2.1, e2.2⟩
  have mx := Mv_nm (lo := 0) (hi := pK s 1 - 1) hf hs
  have my := Mv_nm (lo := 0) (hi := pK s 2 - 1) hf mx.1
  obtain ⟨b1, b2, b3, b4, b5, b6⟩ := hD
  rw [n51 _ _ _ _ _ _ h0]
  simp (disch := (first | assumption | omega | exact Nat.le_of_ble_eq_true rfl | rfl)) only [w51_0, w51_1, w51_2, w51_3, w51_6, w51_9, w51_10, w51_11, w51_14, w51_15, w51_16, w51_17, w51_18, w51_21, w51_24, w51_25, w51_26, w51_29, w51_30, w51_31, w51_34, w51_37, w51_38, w51_41, w51_44, w51_45, w51_46, w51_47, w51_48, w51_51, w51_52, Ko_n, Ko_v, vX_i, vX_r, vX_l, vX_j, reduceIte, Nat.reduceAdd]
  refine c48x (hi := pK s 1 - 1) hR hf hs (fun e => by rw [(b6 e).1.2.1]) (by omega) (by omega) (by omega) (by omega) fun τ x h1 h2 h3 h4 => ?_
  have t4 : τ 402 77 = σ 402 77 := h2 402 77 (by omega)
  simp (disch := (first | assumption | omega | exact Nat.le_of_ble_eq_true rfl | rfl)) only [w51_0, w51_1, w51_2, w51_3, w51_6, w51_9, w51_10, w51_11, w51_14, w51_15, w51_16, w51_17, w51_18, w51_21, w51_24, w51_25, w51_26, w51_29, w51_30, w51_31, w51_34, w51_37, w51_38, w51_41, w51_44, w51_45, w51_46, w51_47, w51_48, w51_51, w51_52, Ko_n, Ko_v, vX_i, vX_r, vX_l, vX_j, reduceIte, Nat.reduceAdd, t4]
  refine c48x (hi := pK s 2 - 1) h1 hf mx.1 (fun e => by rw [(b6 (nmb_ff hs e)).1.2.2.1]) (by omega) (by omega) (by omega) (by omega) fun ρ y h5 h6 h7 h8 => ?_
  have r5 : ρ 401 77 = σ 401 77 := (fR_t h2 h6) 401 77 (by omega)
  have hfi := flt_in my.1
  unfold celP at hQ hc
  dsimp only at hQ hc
  by_cases e : flt (nmb f n 0 (pK s 2 - 1) (nmb f n 0 (pK s 1 - 1) s).2).2 = 0
  · have ex := nmb_ff mx.1 e
    have es := nmb_ff hs ex
    have vx := h4 ex
    have vy := h8 e
    rw [if_pos (flt_0 e).1] at hQ hc
    simp (disch := (first | assumption | omega | exact Nat.le_of_ble_eq_true rfl | rfl)) only [w51_0, w51_1, w51_2, w51_3, w51_6, w51_9, w51_10, w51_11, w51_14, w51_15, w51_16, w51_17, w51_18, w51_21, w51_24, w51_25, w51_26, w51_29, w51_30, w51_31, w51_34, w51_37, w51_38, w51_41, w51_44, w51_45, w51_46, w51_47, w51_48, w51_51, w51_52, Ko_n, Ko_v, vX_i, vX_r, vX_l, vX_j, reduceIte, Nat.reduceAdd, h5.2.2.2.2.2.1, e, r5, (b6 es).1.2.1, not_true]
    rw [vx, vy]
    exact hQ ρ _ h5 (fR_t h2 h6) (by omega) (fun _ => ⟨rfl, es⟩)
  · simp (disch := (first | assumption | omega | exact Nat.le_of_ble_eq_true rfl | rfl)) only [w51_0, w51_1, w51_2, w51_3, w51_6, w51_9, w51_10, w51_11, w51_14, w51_15, w51_16, w51_17, w51_18, w51_21, w51_24, w51_25, w51_26, w51_29, w51_30, w51_31, w51_34, w51_37, w51_38, w51_41, w51_44, w51_45, w51_46, w51_47, w51_48, w51_51, w51_52, Ko_n, Ko_v, vX_i, vX_r, vX_l, vX_j, reduceIte, h5.2.2.2.2.2.1, e, not_false_eq_true]
    exact hQ ρ 0 h5 (fR_t h2 h6) (by omega) (fun z => absurd z e)
/-- the state behind a kind's word -/
def kdT (f : Int → Int) (n : Int) (s : Ps) : Ps := if kdW f s = 0 then blm 2 s else rdOn f n s
theorem c53 {d : Nat} {k n : Int} {f : Int → Int} {T : Tt} {σ : St} {s : Ps} {Q : vmO → vmH → Prop} (hR : Rc f n σ s) (hf : tpOk f n) (hs : pO n s) (hQ : ∀ τ, Rc f n τ (kdT f n s) → fR σ τ → Q (.inl (some (.int (i32 (kdW f s))))) (E T τ)) : Ca (d + 6) k 53 [.ref 75] (E T σ) Q := by
  have h0 := ob_rd
  rw [n53 _ _ _ _ _ _ h0]
  unfold kdT at hQ
  simp (disch := (first | assumption | omega | exact Nat.le_of_ble_eq_true rfl | rfl)) only [w53_0, w53_1, w53_3, w53_6, w53_9, w53_10, w53_11, w53_12, w53_14, w53_17, w53_20, w53_21, w53_22, w53_23, w53_25, w53_28, w53_31, w53_32, w53_33, w53_34, w53_35, w53_38, w53_39, Ko_n, Ko_v, vX_i, vX_r, vX_l, vX_j, reduceIte]
  refine c44 (i := 3) rfl hR hf hs (by omega) (fun w τ h1 h2 => ?_) (fun w3 => ?_)
  · have hk : kdW f s = 1 := by unfold kdW; rw [if_pos w]
    rw [hk, if_neg (by omega)] at hQ
    simp (disch := (first | assumption | omega | exact Nat.le_of_ble_eq_true rfl | rfl)) only [w53_0, w53_1, w53_3, w53_6, w53_9, w53_10, w53_11, w53_12, w53_14, w53_17, w53_20, w53_21, w53_22, w53_23, w53_25, w53_28, w53_31, w53_32, w53_33, w53_34, w53_35, w53_38, w53_39, Ko_n, Ko_v, vX_i, vX_r, vX_l, vX_j, reduceIte, Int.reduceEq]
    exact hQ τ h1 h2
  · simp (disch := (first | assumption | omega | exact Nat.le_of_ble_eq_true rfl | rfl)) only [w53_0, w53_1, w53_3, w53_6, w53_9, w53_10, w53_11, w53_12, w53_14, w53_17, w53_20, w53_21, w53_22, w53_23, w53_25, w53_28, w53_31, w53_32, w53_33, w53_34, w53_35, w53_38, w53_39, Ko_n, Ko_v, vX_i, vX_r, vX_l, vX_j, reduceIte]
    refine c44 (i := 4) rfl hR hf hs (by omega) (fun w τ h1 h2 => ?_) (fun w4 => ?_)
    · have hk : kdW f s = 2 := by unfold kdW; rw [w3, if_neg Bool.false_ne_true, if_pos w]
      rw [hk, if_neg (by omega)] at hQ
      simp (disch := (first | assumption | omega | exact Nat.le_of_ble_eq_true rfl | rfl)) only [w53_0, w53_1, w53_3, w53_6, w53_9, w53_10, w53_11, w53_12, w53_14, w53_17, w53_20, w53_21, w53_22, w53_23, w53_25, w53_28, w53_31, w53_32, w53_33, w53_34, w53_35, w53_38, w53_39, Ko_n, Ko_v, vX_i, vX_r, vX_l, vX_j, reduceIte, Int.reduceEq]
      exact hQ τ h1 h2
    · simp (disch := (first | assumption | omega | exact Nat.le_of_ble_eq_true rfl | rfl)) only [w53_0, w53_1, w53_3, w53_6, w53_9, w53_10, w53_11, w53_12, w53_14, w53_17, w53_20, w53_21, w53_22, w53_23, w53_25, w53_28, w53_31, w53_32, w53_33, w53_34, w53_35, w53_38, w53_39, Ko_n, Ko_v, vX_i, vX_r, vX_l, vX_j, reduceIte]
      refine c44 (i := 5) rfl hR hf hs (by omega) (fun w τ h1 h2 => ?_) (fun w5 => ?_)
      · have hk : kdW f s = 3 := by unfold kdW; rw [w3, if_neg Bool.false_ne_true, w4, if_neg Bool.false_ne_true, if_pos w]
        rw [hk, if_neg (by omega)] at hQ
        simp (disch := (first | assumption | omega | exact Nat.le_of_ble_eq_true rfl | rfl)) only [w53_0, w53_1, w53_3, w53_6, w53_9, w53_10, w53_11, w53_12, w53_14, w53_17, w53_20, w53_21, w53_22, w53_23, w53_25, w53_28, w53_31, w53_32, w53_33, w53_34, w53_35, w53_38, w53_39, Ko_n, Ko_v, vX_i, vX_r, vX_l, vX_j, reduceIte, Int.reduceEq]
        exact hQ τ h1 h2
      · have hk : kdW f s = 0 := by unfold kdW; rw [w3, if_neg Bool.false_ne_true, w4, if_neg Bool.false_ne_true, w5, if_neg Bool.false_ne_true]
        rw [hk, if_pos rfl] at hQ
        simp (disch := (first | assumption | omega | exact Nat.le_of_ble_eq_true rfl | rfl)) only [w53_0, w53_1, w53_3, w53_6, w53_9, w53_10, w53_11, w53_12, w53_14, w53_17, w53_20, w53_21, w53_22, w53_23, w53_25, w53_28, w53_31, w53_32, w53_33, w53_34, w53_35, w53_38, w53_39, Ko_n, Ko_v, vX_i, vX_r, vX_l, vX_j, reduceIte]
        refine c39 hR hs (by omega) fun τ h1 h2 => ?_
        simp (disch := (first | assumption | omega | exact Nat.le_of_ble_eq_true rfl | rfl)) only [w53_0, w53_1, w53_3, w53_6, w53_9, w53_10, w53_11, w53_12, w53_14, w53_17, w53_20, w53_21, w53_22, w53_23, w53_25, w53_28, w53_31, w53_32, w53_33, w53_34, w53_35, w53_38, w53_39, Ko_n, Ko_v, vX_i, vX_r, vX_l, vX_j, reduceIte]
        exact hQ τ h1 h2
theorem tsc_put {σ : St} {r : Nat} {K : Int → Int} {z kd t : Int} (hT : tsc σ r K 7) (z0 : 0 ≤ z) (z1 : z < 36) (h3 : K 3 ≤ 5) : tsc (upA (upA σ 700 r (fu (σ 700 r) z kd)) 701 r (fu (σ 701 r) z t)) r (fu (fu K (7 + z) kd) (43 + z) t) 7 := by
  rw [tsc_W] at hT ⊢
  obtain ⟨a1, a2, a3, a4, a5⟩ := hT
  have o : ∀ j, j ≠ 7 + z → j ≠ 43 + z → fu (fu K (7 + z) kd) (43 + z) t j = K j := fun j h1 h2 => by rw [fu_n h2, fu_n h1]
  refine ⟨fun k k0 k1 => ?_, fun w w0 w1 => ?_, ?_, ?_, ?_⟩
  · rw [upA_t (by omega), upA_s, upA_s]
    have a := a1 k k0 k1
    by_cases e : k = z
    · subst e
      rw [fu_s, fu_s, fu_s, fu_n (show 7 + k ≠ 43 + k by omega), fu_s]
      exact ⟨rfl, rfl⟩
    · rw [fu_n e, fu_n e, o (7 + k) (by omega) (by omega), o (43 + k) (by omega) (by omega)]
      exact a
  · rw [o 3 (by omega) (by omega)] at w1
    rw [upA_t (by omega), upA_t (by omega), upA_t (by omega), upA_t (by omega), o (79 + w) (by omega) (by omega), o (84 + w) (by omega) (by omega)]
    exact a2 w w0 w1
  · rw [upA_t (by omega), upA_t (by omega), o 89 (by omega) (by omega)]; exact a3
  · rw [upA_t (by omega), upA_t (by omega), o 90 (by omega) (by omega)]; exact a4
  · rw [upA_t (by omega), upA_t (by omega), o 91 (by omega) (by omega)]; exact a5
theorem Dc_put {σ : St} {s t : Ps} {z kd th : Int} (h : Dc σ s) (h0 : flt s = 0) (hT : tW (pK s)) (z0 : 0 ≤ z) (z1 : z < 36) (hk : pK t = fu (fu (pK s) (7 + z) kd) (43 + z) th) : Dc (upA (upA σ 700 84 (fu (σ 700 84) z kd)) 701 84 (fu (σ 701 84) z th)) t := by
  obtain ⟨a1, a2, a3, a4, a5, a6⟩ := h
  have q7 : ∀ t, (upA (upA σ 700 84 (fu (σ 700 84) z kd)) 701 84 (fu (σ 701 84) z th)) t 77 = σ t 77 := fun t => by rw [upA_o (by omega), upA_o (by omega)]
  have q8 : ∀ t, (upA (upA σ 700 84 (fu (σ 700 84) z kd)) 701 84 (fu (σ 701 84) z th)) t 81 = σ t 81 := fun t => by rw [upA_o (by omega), upA_o (by omega)]
  refine ⟨by rw [q7]; exact a1, by rw [q7]; exact a2, by rw [q7]; exact a3, by rw [q8]; exact a4, by rw [q7]; exact a5, fun _ => ?_⟩
  have a := a6 h0
  rw [hk]
  refine ⟨tpl_st (fun j hj => by rw [fu_n (by omega), fu_n (by omega)]) (tpl_o q7 q8 a.1), tsc_put a.2 z0 z1 hT.2.2.1.2⟩
theorem Rc_o {f : Int → Int} {n : Int} {σ τ : St} {s : Ps} (h : Rc f n σ s) (h5 : ∀ t, τ t 75 = σ t 75) (h1 : τ 1100 0 = σ 1100 0) : Rc f n τ s := Rc_fr h (fun t _ _ => h5 t) h1
theorem c52 {d : Nat} {k n : Int} {f : Int → Int} {T : Tt} {σ : St} {s : Ps} {Q : vmO → vmH → Prop} (hR : Rc f n σ s) (hD : Dc σ s) (hf : tpOk f n) (hs : pO n s) (ht : tW (pK s)) (hQ : ∀ τ, Rc f n τ (hdg f n s) → Dc τ (hdg f n s) → fW σ τ → Q (.inl none) (E T τ)) : Ca (d + 7) k 52 [.ref 75] (E T σ) Q := by
  have h0 := ob_rd
  have hsc := ob_fs
  have hc := cel_in hf hs ht
  rw [n52 _ _ _ _ _ _ h0]
  simp (disch := (first | assumption | omega | exact Nat.le_of_ble_eq_true rfl | rfl)) only [w52_0, w52_1, w52_4, w52_5, w52_6, w52_9, w52_10, w52_11, w52_12, w52_14, w52_17, w52_18, w52_19, w52_22, w52_25, w52_26, w52_29, w52_30, w52_31, w52_32, w52_35, Ko_n, Ko_v, vX_i, vX_r, vX_l, vX_j, reduceIte]
  refine c51 hR hD hf hs ht fun τ v h1 h2 h3 h4 => ?_
  simp (disch := (first | assumption | omega | exact Nat.le_of_ble_eq_true rfl | rfl)) only [w52_0, w52_1, w52_4, w52_5, w52_6, w52_9, w52_10, w52_11, w52_12, w52_14, w52_17, w52_18, w52_19, w52_22, w52_25, w52_26, w52_29, w52_30, w52_31, w52_32, w52_35, Ko_n, Ko_v, vX_i, vX_r, vX_l, vX_j, reduceIte]
  refine c53 h1 hf hc.1.1 fun ρ h5 h6 => ?_
  have m2 : Mv n s (kdT f n (celP f n s).2) := by
    unfold kdT
    split
    · exact Mv_t hc.1 (Mv_bl hc.1.1 (by omega) (by omega))
    · exact Mv_t hc.1 (Mv_rd hf hc.1.1)
  have hkd : flt (kdT f n (celP f n s).2) = 0 → flt (celP f n s).2 = 0 := by
    intro e
    by_cases e2 : flt (celP f n s).2 = 0
    · exact e2
    · unfold kdT at e
      have : kdW f (celP f n s).2 = 0 := by unfold kdW; rw [isWd_n e2, isWd_n e2, isWd_n e2]; rfl
      rw [if_pos this, (blm_f hc.1.1 (by omega) e2).1] at e
      exact e
  simp (disch := (first | assumption | omega | exact Nat.le_of_ble_eq_true rfl | rfl)) only [w52_0, w52_1, w52_4, w52_5, w52_6, w52_9, w52_10, w52_11, w52_12, w52_14, w52_17, w52_18, w52_19, w52_22, w52_25, w52_26, w52_29, w52_30, w52_31, w52_32, w52_35, Ko_n, Ko_v, vX_i, vX_r, vX_l, vX_j, reduceIte]
  refine c48 h5 hf m2.1 (by omega) (by omega) (by omega) (by omega) fun ω t h7 h8 h9 h10 => ?_
  have m3 := Mv_nm (lo := 1) (hi := 60) hf m2.1
  have hfi := flt_in m3.1
  have fr := fR_t h2 (fR_t h6 h8)
  have e0 : hdg f n s = if pB (nmb f n 1 60 (kdT f n (celP f n s).2)).2 = 0 then stK2 (fu (fu (pK (nmb f n 1 60 (kdT f n (celP f n s).2)).2) (7 + (celP f n s).1) (kdW f (celP f n s).2)) (43 + (celP f n s).1) (nmb f n 1 60 (kdT f n (celP f n s).2)).1) (nmb f n 1 60 (kdT f n (celP f n s).2)).2 else (nmb f n 1 60 (kdT f n (celP f n s).2)).2 := rfl
  rw [e0] at hQ
  by_cases e : flt (nmb f n 1 60 (kdT f n (celP f n s).2)).2 = 0
  · have ek := nmb_ff m2.1 e
    have ec := hkd ek
    have es := h4 ec
    rw [if_pos (flt_0 e).1] at hQ
    have hDw : Dc ω s := Dc_R hD fr (fun z => z) rfl
    simp (disch := (first | assumption | omega | exact Nat.le_of_ble_eq_true rfl | rfl)) only [w52_0, w52_1, w52_4, w52_5, w52_6, w52_9, w52_10, w52_11, w52_12, w52_14, w52_17, w52_18, w52_19, w52_22, w52_25, w52_26, w52_29, w52_30, w52_31, w52_32, w52_35, Ko_n, Ko_v, vX_i, vX_r, vX_l, vX_j, reduceIte, h7.2.2.2.2.2.1, e, not_true, Nat.reduceAdd]
    rw [c79 hsc h3.1 h3.2]
    simp (disch := (first | assumption | omega | exact Nat.le_of_ble_eq_true rfl | rfl)) only [w52_0, w52_1, w52_4, w52_5, w52_6, w52_9, w52_10, w52_11, w52_12, w52_14, w52_17, w52_18, w52_19, w52_22, w52_25, w52_26, w52_29, w52_30, w52_31, w52_32, w52_35, Ko_n, Ko_v, vX_i, vX_r, vX_l, vX_j, reduceIte]
    have hK : pK (nmb f n 1 60 (kdT f n (celP f n s).2)).2 = pK s := (Mv_t m2 m3).2.1
    refine hQ _ (Rc_o h7 (fun t => by rw [upA_o (by omega), upA_o (by omega)]) (by rw [upA_o (by omega), upA_o (by omega)])) ?_ (fun t o a b c dd => by rw [upA_o dd, upA_o dd]; exact fr t o a)
    rw [h10 e, es.1]
    rw [es.1] at h3
    exact Dc_put hDw es.2 ht h3.1 h3.2 (by rw [hK]; rfl)
  · simp (disch := (first | assumption | omega | exact Nat.le_of_ble_eq_true rfl | rfl)) only [w52_0, w52_1, w52_4, w52_5, w52_6, w52_9, w52_10, w52_11, w52_12, w52_14, w52_17, w52_18, w52_19, w52_22, w52_25, w52_26, w52_29, w52_30, w52_31, w52_32, w52_35, Ko_n, Ko_v, vX_i, vX_r, vX_l, vX_j, reduceIte, h7.2.2.2.2.2.1, e, not_false_eq_true]
    have q : ∀ K, flt (if pB (nmb f n 1 60 (kdT f n (celP f n s).2)).2 = 0 then stK2 K (nmb f n 1 60 (kdT f n (celP f n s).2)).2 else (nmb f n 1 60 (kdT f n (celP f n s).2)).2) ≠ 0 := by
      intro K
      split
      · exact e
      · exact e
    have q2 : ∀ K, Rc f n ω (if pB (nmb f n 1 60 (kdT f n (celP f n s).2)).2 = 0 then stK2 K (nmb f n 1 60 (kdT f n (celP f n s).2)).2 else (nmb f n 1 60 (kdT f n (celP f n s).2)).2) := by
      intro K
      split
      · exact h7
      · exact h7
    exact hQ ω (q2 _) (Dc_f (Dc_R hD fr (fun z => z) rfl) (q _)) (fR_W fr)
theorem c54 {d : Nat} {k n : Int} {f : Int → Int} {T : Tt} {σ : St} {s : Ps} {Q : vmO → vmH → Prop} (hR : Rc f n σ s) (hD : Dc σ s) (hf : tpOk f n) (hs : pO n s) (ht : tW (pK s)) (he : flt s = 0) (hw : pT s = 1) (hQ : ∀ τ, Rc f n τ (wal f n s) → Dc τ (wal f n s) → fW σ τ → Q (.inl none) (E T τ)) : Ca (d + 7) k 54 [.ref 75] (E T σ) Q := by
  have h0 := ob_rd
  have hp := ob_fp
  have hsc := ob_fs
  have hb := (flt_0 he).1
  have hd3 := hD.2.2.1
  have hK3 := (hD.2.2.2.2.2 he).1.2.2.2.1
  have ht3 := ht.2.2.1
  rw [n54 _ _ _ _ _ _ h0]
  unfold wal at hQ
  dsimp only at hQ
  by_cases e : 0 < pK s 3
  · rw [if_pos e, rdO_b (blm_O hs (by omega) (by omega)).2, if_neg (blm_O hs (by omega) (by omega)).2] at hQ
    simp (disch := (first | assumption | omega | exact Nat.le_of_ble_eq_true rfl | rfl)) only [w54_0, w54_1, w54_4, w54_7, w54_10, w54_11, w54_12, w54_15, w54_16, w54_17, w54_20, w54_21, w54_24, w54_25, w54_26, w54_29, w54_32, w54_33, w54_36, w54_37, w54_38, w54_39, w54_42, Ko_n, Ko_v, vX_i, vX_r, vX_l, vX_j, reduceIte, Nat.reduceAdd, hK3, show ¬ pK s 3 ≤ 0 by omega]
    refine c39 hR hs (by omega) fun τ h1 h2 => ?_
    simp (disch := (first | assumption | omega | exact Nat.le_of_ble_eq_true rfl | rfl)) only [w54_0, w54_1, w54_4, w54_7, w54_10, w54_11, w54_12, w54_15, w54_16, w54_17, w54_20, w54_21, w54_24, w54_25, w54_26, w54_29, w54_32, w54_33, w54_36, w54_37, w54_38, w54_39, w54_42, Ko_n, Ko_v, vX_i, vX_r, vX_l, vX_j, reduceIte]
    exact hQ τ h1 (Dc_f (Dc_R hD h2 (fun z => z) rfl) (fun z => (blm_O hs (k := 2) (by omega) (by omega)).2 (flt_0 z).1)) (fR_W h2)
  · have hr : rdO f n s = rdOn f n s := by unfold rdO; rw [if_pos hb]
    rw [if_neg e, hr, if_pos (show pB (rdOn f n s) = 0 from hb)] at hQ
    have r := Mv_rd hf hs
    simp (disch := (first | assumption | omega | exact Nat.le_of_ble_eq_true rfl | rfl)) only [w54_0, w54_1, w54_4, w54_7, w54_10, w54_11, w54_12, w54_15, w54_16, w54_17, w54_20, w54_21, w54_24, w54_25, w54_26, w54_29, w54_32, w54_33, w54_36, w54_37, w54_38, w54_39, w54_42, Ko_n, Ko_v, vX_i, vX_r, vX_l, vX_j, reduceIte, Nat.reduceAdd, hK3, show pK s 3 ≤ 0 by omega]
    refine c40 hR hf hs he fun τ h1 h2 => ?_
    simp (disch := (first | assumption | omega | exact Nat.le_of_ble_eq_true rfl | rfl)) only [w54_0, w54_1, w54_4, w54_7, w54_10, w54_11, w54_12, w54_15, w54_16, w54_17, w54_20, w54_21, w54_24, w54_25, w54_26, w54_29, w54_32, w54_33, w54_36, w54_37, w54_38, w54_39, w54_42, Ko_n, Ko_v, vX_i, vX_r, vX_l, vX_j, reduceIte]
    have hDt : Dc τ (rdOn f n s) := Dc_R hD h2 (fun _ => he) rfl
    have htr : tW (pK (rdOn f n s)) := ht
    have hc := cel_in hf r.1 htr
    refine c51 h1 hDt hf r.1 htr fun ρ v h3 h4 h5 h6 => ?_
    have hfi := flt_in hc.1.1
    have fr := fR_t h2 h4
    by_cases e2 : flt (celP f n (rdOn f n s)).2 = 0
    · rw [if_pos (flt_0 e2).1] at hQ
      have hv := (h6 e2).1
      have hDw : Dc ρ s := Dc_R hD fr (fun z => z) rfl
      simp (disch := (first | assumption | omega | exact Nat.le_of_ble_eq_true rfl | rfl)) only [w54_0, w54_1, w54_4, w54_7, w54_10, w54_11, w54_12, w54_15, w54_16, w54_17, w54_20, w54_21, w54_24, w54_25, w54_26, w54_29, w54_32, w54_33, w54_36, w54_37, w54_38, w54_39, w54_42, Ko_n, Ko_v, vX_i, vX_r, vX_l, vX_j, reduceIte, h3.2.2.2.2.2.1, e2, not_true, Nat.reduceAdd]
      rw [c79 hsc h5.1 h5.2]
      simp (disch := (first | assumption | omega | exact Nat.le_of_ble_eq_true rfl | rfl)) only [w54_0, w54_1, w54_4, w54_7, w54_10, w54_11, w54_12, w54_15, w54_16, w54_17, w54_20, w54_21, w54_24, w54_25, w54_26, w54_29, w54_32, w54_33, w54_36, w54_37, w54_38, w54_39, w54_42, Ko_n, Ko_v, vX_i, vX_r, vX_l, vX_j, reduceIte]
      have hK : pK (celP f n (rdOn f n s)).2 = pK s := hc.1.2.1
      refine hQ _ (Rc_o h3 (fun t => by rw [upA_o (by omega), upA_o (by omega)]) (by rw [upA_o (by omega), upA_o (by omega)])) ?_ (fun t o a b c dd => by rw [upA_o dd, upA_o dd]; exact fr t o a)
      rw [hv] at h5 ⊢
      exact Dc_put hDw he ht h5.1 h5.2 (by rw [hK]; rfl)
    · simp (disch := (first | assumption | omega | exact Nat.le_of_ble_eq_true rfl | rfl)) only [w54_0, w54_1, w54_4, w54_7, w54_10, w54_11, w54_12, w54_15, w54_16, w54_17, w54_20, w54_21, w54_24, w54_25, w54_26, w54_29, w54_32, w54_33, w54_36, w54_37, w54_38, w54_39, w54_42, Ko_n, Ko_v, vX_i, vX_r, vX_l, vX_j, reduceIte, h3.2.2.2.2.2.1, e2, not_false_eq_true]
      have q : ∀ K, flt (if pB (celP f n (rdOn f n s)).2 = 0 then stK2 K (celP f n (rdOn f n s)).2 else (celP f n (rdOn f n s)).2) ≠ 0 := by
        intro K
        split
        · exact e2
        · exact e2
      have q2 : ∀ K, Rc f n ρ (if pB (celP f n (rdOn f n s)).2 = 0 then stK2 K (celP f n (rdOn f n s)).2 else (celP f n (rdOn f n s)).2) := by
        intro K
        split
        · exact h3
        · exact h3
      exact hQ ρ (q2 _) (Dc_f (Dc_R hD fr (fun z => z) rfl) (q _)) (fR_W fr)
