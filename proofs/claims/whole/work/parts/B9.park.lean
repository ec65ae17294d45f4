/-! ===== the reference's park ===== -/
theorem jL_t {n : Int} {s t u : Ps} (h1 : jL n s t) (h2 : jL n t u) : jL n s u := ⟨h2.1, fun e => by have b := h2.2.1 e; have a := h1.2.1 b.1; exact ⟨a.1, by omega⟩, by rw [h2.2.2, h1.2.2]⟩
theorem wkr_J {f : Int → Int} {n : Int} {s : Ps} (hf : tpOk f n) (h : iL n s) : jL n s (wkr f n s) := by
  have a1 := h.2.1.1.1
  have a2 := h.2.1.1.2.1
  have a3 := h.2.1.1.2.2.1
  have hw := wh_mul (W := pK s 1) (H := pK s 2) ⟨a1.1, a1.2, a2.1, a2.2⟩
  unfold wkr
  dsimp only
  have m1 : Mv n s (rdO f n (if pK s 3 = 5 then blm 4 s else s)) := by
    split
    · exact Mv_t (Mv_bl h.1 (by omega) (by omega)) (Mv_rO hf (Mv_bl h.1 (by omega) (by omega)).1)
    · exact Mv_rO hf h.1
  have key : pB (rdO f n (if pK s 3 = 5 then blm 4 s else s)) = 0 → pK s 3 < 5 := by
    intro e
    rw [rdO_B] at e
    by_cases e2 : pK s 3 = 5
    · rw [if_pos e2] at e
      exact absurd e (blm_O h.1 (by omega) (by omega)).2
    · omega
  generalize rdO f n (if pK s 3 = 5 then blm 4 s else s) = s1 at *
  by_cases e : pB s1 = 0
  · rw [if_pos e]
    have h5 := key e
    have mx := Mv_nm (lo := 0) (hi := pK s 1 - 1) hf m1.1
    have vx := (nmb_v (f := f) (lo := 0) (hi := pK s 1 - 1) m1.1).2.1 (by omega)
    generalize nmb f n 0 (pK s 1 - 1) s1 = x at *
    have m2 : Mv n s (if pB x.2 = 0 ∧ pT x.2 = 2 ∧ pV x.2 < pK s 2 ∧ pK s (7 + pK s 1 * pV x.2 + x.1) = 4 then blm 3 x.2 else x.2) := by
      split
      · exact Mv_t m1 (Mv_t mx (Mv_bl mx.1 (by omega) (by omega)))
      · exact Mv_t m1 mx
    have key2 : pB (if pB x.2 = 0 ∧ pT x.2 = 2 ∧ pV x.2 < pK s 2 ∧ pK s (7 + pK s 1 * pV x.2 + x.1) = 4 then blm 3 x.2 else x.2) = 0 → ¬ (pB x.2 = 0 ∧ pT x.2 = 2 ∧ pV x.2 < pK s 2 ∧ pK s (7 + pK s 1 * pV x.2 + x.1) = 4) ∧ (if pB x.2 = 0 ∧ pT x.2 = 2 ∧ pV x.2 < pK s 2 ∧ pK s (7 + pK s 1 * pV x.2 + x.1) = 4 then blm 3 x.2 else x.2) = x.2 := by
      intro e
      by_cases e2 : pB x.2 = 0 ∧ pT x.2 = 2 ∧ pV x.2 < pK s 2 ∧ pK s (7 + pK s 1 * pV x.2 + x.1) = 4
      · rw [if_pos e2] at e
        exact absurd e (blm_O mx.1 (by omega) (by omega)).2
      · exact ⟨e2, by rw [if_neg e2]⟩
    generalize (if pB x.2 = 0 ∧ pT x.2 = 2 ∧ pV x.2 < pK s 2 ∧ pK s (7 + pK s 1 * pV x.2 + x.1) = 4 then blm 3 x.2 else x.2) = s2 at *
    have my := Mv_nm (lo := 0) (hi := pK s 2 - 1) hf m2.1
    have vy := nmb_v (f := f) (lo := 0) (hi := pK s 2 - 1) m2.1
    generalize nmb f n 0 (pK s 2 - 1) s2 = y at *
    have j3 : jL n s (if isWd f 8 y.2 = true then stK2 (fu (pK s) 92 (oo (pK s 92) (sl 1 (pK s 3)))) (rdOn f n y.2) else y.2) := by
      split
      · refine jL_st h (Mv_t (Mv_t m2 my) (Mv_rd hf my.1)) (tV_fr h.2.1 h5) ?_ ?_
        · rw [fu_n (by omega)]
        · rw [fu_n (by omega)]
      · exact jL_mv h (Mv_t m2 my)
    have k3 : (∀ j, j ≠ 92 → pK (if isWd f 8 y.2 = true then stK2 (fu (pK s) 92 (oo (pK s 92) (sl 1 (pK s 3)))) (rdOn f n y.2) else y.2) j = pK s j) ∧ (pB (if isWd f 8 y.2 = true then stK2 (fu (pK s) 92 (oo (pK s 92) (sl 1 (pK s 3)))) (rdOn f n y.2) else y.2) = 0 → pB y.2 = 0) := by
      split
      · exact ⟨fun j hj => fu_n hj, fun e => e⟩
      · exact ⟨fun j _ => by rw [(Mv_t m2 my).2.1], fun e => e⟩
    generalize (if isWd f 8 y.2 = true then stK2 (fu (pK s) 92 (oo (pK s 92) (sl 1 (pK s 3)))) (rdOn f n y.2) else y.2) = s3 at *
    have ma : Mv n s3 (if isWd f 9 s3 = true then nmb f n 0 999 (rdOn f n s3) else (0, s3)).2 ∧ (0 ≤ (if isWd f 9 s3 = true then nmb f n 0 999 (rdOn f n s3) else (0, s3)).1 ∧ (if isWd f 9 s3 = true then nmb f n 0 999 (rdOn f n s3) else (0, s3)).1 ≤ 999) := by
      split
      · have r := Mv_rd hf j3.1.1
        exact ⟨Mv_t r (Mv_nm hf r.1), (nmb_v r.1).2.1 (by omega)⟩
      · exact ⟨Mv_r j3.1.1, by omega⟩
    generalize (if isWd f 9 s3 = true then nmb f n 0 999 (rdOn f n s3) else (0, s3)) = a at *
    by_cases e5 : pB a.2 = 0
    · rw [if_pos e5]
      have b3 := (ma.1.2.2.2 e5).1
      have by2 := k3.2 b3
      have vv := vy.1 by2
      have b2 := (my.2.2.2 by2).1
      have kk := key2 b2
      rw [kk.2] at vv
      have hbx : pB x.2 = 0 := by rw [← kk.2]; exact b2
      have ja := jL_t j3 (jL_mv j3.1 ma.1)
      have kA : ∀ j, j ≠ 92 → pK a.2 j = pK s j := fun j hj => by rw [ma.1.2.1, k3.1 j hj]
      have q1 : pK s 1 * y.1 ≤ pK s 1 * (pK s 2 - 1) := Int.mul_le_mul_of_nonneg_left (by omega) (by omega)
      have q2 : 0 ≤ pK s 1 * y.1 := Int.mul_nonneg (by omega) (by omega)
      rw [Int.mul_sub, Int.mul_one] at q1
      have hz : pK s (7 + (pK s 1 * y.1 + x.1)) ≠ 4 := fun e4 => kk.1 ⟨hbx, vv.2.2.2.1, by rw [← vv.2.2.1]; omega, by rw [← vv.2.2.1, ← e4]; congr 1; omega⟩
      have tvA := tV_wk (z := pK s 1 * y.1 + x.1) (a := a.1) ja.1.2.1 (by rw [kA 3 (by omega)]; omega) (by omega) (by rw [kA 1 (by omega), kA 2 (by omega)]; omega) (by rw [kA (7 + (pK s 1 * y.1 + x.1)) (by omega)]; exact hz) ma.2.1 ma.2.2
      rw [kA 3 (by omega)] at tvA
      refine jL_t ja (jL_st ja.1 (Mv_r ja.1.1) tvA ?_ ?_)
      · unfold wkS
        rw [fu_n (by omega), fu_n (by omega), fu_n (by omega)]
      · unfold wkS
        rw [fu_n (by omega), fu_n (by omega), fu_n (by omega)]
    · rw [if_neg e5]
      exact jL_t j3 (jL_mv j3.1 ma.1)
  · rw [if_neg e]
    exact jL_mv h m1
def mL (n : Int) (s : Ps) : Prop := iL n s ∧ (pB s = 0 → pK s 0 ≤ pG s)
theorem stp_M {f : Int → Int} {n : Int} {s : Ps} (hf : tpOk f n) (h : pO n s) (hk : kO s) (h0 : pB s = 0 → pK s 0 ≤ pG s) (hp : 0 ≤ pK s 0) : pO n (stpL f n s) ∧ kO (stpL f n s) ∧ (pB (stpL f n s) = 0 → pB s = 0 ∧ pG s < pG (stpL f n s) ∧ pK (stpL f n s) 0 ≤ pG (stpL f n s)) ∧ pD (stpL f n s) = pD s ∧ (∀ j, j ≠ 0 → pK (stpL f n s) j = pK s j) ∧ 0 ≤ pK (stpL f n s) 0 := by
  have m := Mv_mu (c := 59) hf h
  have hlt : pB (muS f n 59 s) = 0 → pG s < pG (muS f n 59 s) := by
    intro e
    unfold muS at e ⊢
    rw [rdO_B] at e
    by_cases e2 : pT s = 59
    · rw [if_pos e2] at e ⊢
      unfold rdO
      rw [if_pos e]
      have := (rdOn_O hf h).2
      have := h.2.2.2.2.1 e (by omega)
      omega
    · rw [if_neg e2] at e
      exact absurd e (blm_O h (by omega) (by omega)).2
  unfold stpL
  dsimp only
  generalize muS f n 59 s = t at *
  by_cases e : pB t = 0
  · rw [if_pos e]
    have hb := m.2.2.2 e
    have q0 := h0 hb.1
    have q5 := hk.2 hb.1
    have ql := hlt e
    have k5 : pK (stK2 (fu (pK t) 0 (pK t 0 + 1)) t) 5 = pK s 5 := by show fu (pK t) 0 (pK t 0 + 1) 5 = _; rw [fu_n (by omega), m.2.1]
    have k0 : pK (stK2 (fu (pK t) 0 (pK t 0 + 1)) t) 0 = pK s 0 + 1 := by show fu (pK t) 0 (pK t 0 + 1) 0 = _; rw [fu_s, m.2.1]
    refine ⟨m.1, ⟨by rw [k5]; exact hk.1, fun _ => by rw [k5]; show pK s 5 ≤ pG t; omega⟩, fun _ => ⟨hb.1, ql, by rw [k0]; show pK s 0 + 1 ≤ pG t; omega⟩, m.2.2.1, fun j hj => ?_, by rw [k0]; omega⟩
    show fu (pK t) 0 (pK t 0 + 1) j = _
    rw [fu_n hj, m.2.1]
  · rw [if_neg e]
    exact ⟨m.1, ⟨by rw [m.2.1]; exact hk.1, fun z => absurd z e⟩, fun z => absurd z e, m.2.2.1, fun j _ => by rw [m.2.1], by rw [m.2.1]; exact hp⟩
theorem lo_J {n : Int} {s t : Ps} (h : iL n s) (hl : Lo n 0 s t) : jL n s t := by
  have h5 := h.2.2.1.1
  refine ⟨⟨hl.1, tV_cg (fun j j5 _ j1 => hl.2.2.2.1 j j5 (by omega)) (by rw [hl.2.2.2.1 0 (by omega) (by omega)]; exact h.2.1.2.2.2.2.2.2) h.2.1, Lo_k hl h.2.2.1, by rw [hl.2.1, h.2.2.2]; omega⟩, fun e => ?_, hl.2.2.2.1 0 (by omega) (by omega)⟩
  have := hl.2.2.2.2 e
  exact ⟨this.1, this.2.1⟩
/-- a line, ahead of its end -/
def lin0 (f : Int → Int) (n : Int) (s : Ps) : Ps :=
  if isWd f 2 s then hdg f n (rdOn f n s)
  else if isWd f 6 s then wal f n s
  else if isWd f 7 s then wkr f n s
  else if isWd f 10 s then ern f n (rdOn f n s)
  else if isWd f 21 s then (let v := nmb f n 2 9 (rdOn f n s); stK2 (fu (pK v.2) 4 v.1) v.2)
  else if isWd f 11 s then pTru f n (unD f n 6) (stK2 (fu (pK s) 5 0) (rdOn f n s))
  else blm 2 s
theorem gr_J {f : Int → Int} {n : Int} {s : Ps} (hf : tpOk f n) (h : iL n s) : jL n s (stK2 (fu (pK s) 5 0) (rdOn f n s)) := by
  have r := Mv_rd hf h.1
  have o : ∀ j, j ≠ 5 → fu (pK s) 5 0 j = pK s j := fun j hj => fu_n hj
  refine ⟨⟨r.1, tV_cg (fun j j5 _ _ => o j j5) (by show 0 ≤ fu (pK s) 5 0 0; rw [o 0 (by omega)]; exact h.2.1.2.2.2.2.2.2) h.2.1, ⟨by show 0 ≤ fu (pK s) 5 0 5; rw [fu_s]; omega, fun e => ?_⟩, h.2.2.2⟩, r.2.2.2, o 0 (by omega)⟩
  show fu (pK s) 5 0 5 ≤ _
  rw [fu_s]
  exact r.1.2.2.1.1
theorem lin0_J {f : Int → Int} {n : Int} {σ : St} {s : Ps} (hF : σ 1205 382 = f) (hn : σ 1207 382 0 = n) (hf : tpOk f n) (h : iL n s) : jL n s (lin0 f n s) := by
  have r := Mv_rd hf h.1
  have jr := jL_mv h r
  unfold lin0
  split
  · exact jL_t jr (hdg_J hf jr.1)
  · split
    · exact wal_J hf h
    · split
      · exact wkr_J hf h
      · split
        · exact jL_t jr (ern_J hf jr.1)
        · split
          · dsimp only
            have mv := Mv_nm (lo := 2) (hi := 9) hf r.1
            have vv := (nmb_v (f := f) (lo := 2) (hi := 9) r.1).2.1 (by omega)
            have m := Mv_t r mv
            refine jL_st h m ?_ ?_ ?_
            · rw [m.2.1]; exact tV_4 h.2.1 (by omega) vv.2
            · rw [fu_n (by omega), m.2.1]
            · rw [fu_n (by omega), m.2.1]
          · split
            · have g := gr_J hf h
              exact jL_t g (lo_J g.1 ((truD_ok (T := (0, 0, true, 0, fun _ => 0)) hF hn hf).1 _ g.1.1 g.1.2.2.1 g.1.2.2.2 (fun z => by omega)))
            · exact jL_mv h (Mv_bl h.1 (by omega) (by omega))
theorem lin_M {f : Int → Int} {n : Int} {σ : St} {s : Ps} (hF : σ 1205 382 = f) (hn : σ 1207 382 0 = n) (hf : tpOk f n) (h : mL n s) : mL n (lin f n s) ∧ (pB (lin f n s) = 0 → pB s = 0 ∧ pG s < pG (lin f n s)) := by
  have j := lin0_J hF hn hf h.1
  have e : lin f n s = stpL f n (lin0 f n s) := rfl
  have hk0 : pB (lin0 f n s) = 0 → pK (lin0 f n s) 0 ≤ pG (lin0 f n s) := fun e => by
    have := j.2.1 e
    have := h.2 this.1
    rw [j.2.2]; omega
  have m := stp_M hf j.1.1 j.1.2.2.1 hk0 j.1.2.1.2.2.2.2.2.2
  rw [e]
  generalize stpL f n (lin0 f n s) = t at *
  refine ⟨⟨⟨m.1, tV_cg (fun j _ j0 _ => m.2.2.2.2.1 j j0) m.2.2.2.2.2 j.1.2.1, m.2.1, by rw [m.2.2.2.1]; exact j.1.2.2.2⟩, fun e => (m.2.2.1 e).2.2⟩, fun e => ?_⟩
  have a := m.2.2.1 e
  have b := j.2.1 a.1
  exact ⟨b.1, by omega⟩
theorem c206 {d : Nat} {k n : Int} {f : Int → Int} {T : Tt} {σ : St} {s : Ps} {Q : vmO → vmH → Prop} (hF : σ 1205 382 = f) (hn : σ 1207 382 0 = n) (hf : tpOk f n) (hs : pO n s) : Ca (d + 4) k 206 [.ref 382] (E T (pS σ s)) Q = Q (.inl none) (E T (pS σ (stpL f n s))) := by
  have h0 := ob_md
  have m := Mv_mu (c := 59) hf hs
  have hb := m.1.1
  rw [n206 _ _ _ _ _ _ h0]
  simp (disch := (first | assumption | omega | exact Nat.le_of_ble_eq_true rfl | rfl)) only [w206_0, w206_1, w206_3, w206_6, w206_7, w206_10, w206_13, w206_14, w206_17, w206_18, w206_19, w206_20, w206_21, w206_22, w206_23, Ko_n, Ko_v, vX_i, vX_r, vX_l, vX_j, reduceIte]
  rw [c189 hF hn hf hs (by omega) (by omega)]
  unfold stpL
  dsimp only
  generalize muS f n 59 s = t at *
  by_cases e : pB t = 0
  · rw [if_pos e]
    simp (disch := (first | assumption | omega | exact Nat.le_of_ble_eq_true rfl | rfl)) only [w206_0, w206_1, w206_3, w206_6, w206_7, w206_10, w206_13, w206_14, w206_17, w206_18, w206_19, w206_20, w206_21, w206_22, w206_23, Ko_n, Ko_v, vX_i, vX_r, vX_l, vX_j, reduceIte, pS_B, pS_K, pS_uK, e, not_true]
    unfold stK2
    rw [e]
  · rw [if_neg e]
    simp (disch := (first | assumption | omega | exact Nat.le_of_ble_eq_true rfl | rfl)) only [w206_0, w206_1, w206_3, w206_6, w206_7, w206_10, w206_13, w206_14, w206_17, w206_18, w206_19, w206_20, w206_21, w206_22, w206_23, Ko_n, Ko_v, vX_i, vX_r, vX_l, vX_j, reduceIte, pS_B, e, not_false_eq_true]
theorem c207 {d : Nat} {k n : Int} {f : Int → Int} {T : Tt} {σ : St} {s : Ps} {Q : vmO → vmH → Prop} (hF : σ 1205 382 = f) (hn : σ 1207 382 0 = n) (hf : tpOk f n) (h : iL n s) : Ca (d + 34) k 207 [.ref 382] (E T (pS σ s)) Q = Q (.inl none) (E T (pS σ (lin f n s))) := by
  have h0 := ob_md
  have hs := h.1
  have r := Mv_rd hf hs
  have ir := iL_mv h r
  have hc4 : ∀ j, 0 ≤ j → j < 36 → 0 ≤ pK s (7 + j) ∧ pK s (7 + j) ≤ 4 := fun j j0 j1 => (h.2.1.2.2.2.2.2.1.1 j j0 j1).1
  have jl := lin0_J hF hn hf h
  have e : lin f n s = stpL f n (lin0 f n s) := rfl
  rw [n207 _ _ _ _ _ _ h0, e]
  have tl : ∀ t : Ps, t = lin0 f n s → Wp (d + 34) M_X12_readLine 117 [.ref 382] [] (E T (pS σ t)) Q = Q (.inl none) (E T (pS σ (stpL f n (lin0 f n s)))) := by
    intro t ht
    subst ht
    simp (disch := (first | assumption | omega | exact Nat.le_of_ble_eq_true rfl | rfl)) only [w207_0, w207_1, w207_3, w207_6, w207_9, w207_10, w207_13, w207_16, w207_17, w207_19, w207_22, w207_25, w207_26, w207_29, w207_32, w207_33, w207_35, w207_38, w207_41, w207_42, w207_45, w207_48, w207_49, w207_51, w207_54, w207_57, w207_58, w207_61, w207_64, w207_65, w207_67, w207_70, w207_73, w207_74, w207_77, w207_78, w207_79, w207_80, w207_82, w207_85, w207_86, w207_89, w207_90, w207_92, w207_95, w207_98, w207_99, w207_102, w207_103, w207_104, w207_105, w207_106, w207_109, w207_112, w207_113, w207_114, w207_117, w207_118, w207_121, Ko_n, Ko_v, vX_i, vX_r, vX_l, vX_j, reduceIte]
    rw [c206 hF hn hf jl.1.1]
    simp (disch := (first | assumption | omega | exact Nat.le_of_ble_eq_true rfl | rfl)) only [w207_0, w207_1, w207_3, w207_6, w207_9, w207_10, w207_13, w207_16, w207_17, w207_19, w207_22, w207_25, w207_26, w207_29, w207_32, w207_33, w207_35, w207_38, w207_41, w207_42, w207_45, w207_48, w207_49, w207_51, w207_54, w207_57, w207_58, w207_61, w207_64, w207_65, w207_67, w207_70, w207_73, w207_74, w207_77, w207_78, w207_79, w207_80, w207_82, w207_85, w207_86, w207_89, w207_90, w207_92, w207_95, w207_98, w207_99, w207_102, w207_103, w207_104, w207_105, w207_106, w207_109, w207_112, w207_113, w207_114, w207_117, w207_118, w207_121, Ko_n, Ko_v, vX_i, vX_r, vX_l, vX_j, reduceIte]
  unfold lin0 at tl
  simp (disch := (first | assumption | omega | exact Nat.le_of_ble_eq_true rfl | rfl)) only [w207_0, w207_1, w207_3, w207_6, w207_9, w207_10, w207_13, w207_16, w207_17, w207_19, w207_22, w207_25, w207_26, w207_29, w207_32, w207_33, w207_35, w207_38, w207_41, w207_42, w207_45, w207_48, w207_49, w207_51, w207_54, w207_57, w207_58, w207_61, w207_64, w207_65, w207_67, w207_70, w207_73, w207_74, w207_77, w207_78, w207_79, w207_80, w207_82, w207_85, w207_86, w207_89, w207_90, w207_92, w207_95, w207_98, w207_99, w207_102, w207_103, w207_104, w207_105, w207_106, w207_109, w207_112, w207_113, w207_114, Ko_n, Ko_v, vX_i, vX_r, vX_l, vX_j, reduceIte]
  rw [c187w (i := 2) rfl hF hn hf hs (by omega)]
  cases w2 : isWd f 2 s with
  | true =>
    rw [w2, if_pos rfl] at tl
    rw [tkW_t w2]
    simp (disch := (first | assumption | omega | exact Nat.le_of_ble_eq_true rfl | rfl)) only [w207_0, w207_1, w207_3, w207_6, w207_9, w207_10, w207_13, w207_16, w207_17, w207_19, w207_22, w207_25, w207_26, w207_29, w207_32, w207_33, w207_35, w207_38, w207_41, w207_42, w207_45, w207_48, w207_49, w207_51, w207_54, w207_57, w207_58, w207_61, w207_64, w207_65, w207_67, w207_70, w207_73, w207_74, w207_77, w207_78, w207_79, w207_80, w207_82, w207_85, w207_86, w207_89, w207_90, w207_92, w207_95, w207_98, w207_99, w207_102, w207_103, w207_104, w207_105, w207_106, w207_109, w207_112, w207_113, w207_114, Ko_n, Ko_v, vX_i, vX_r, vX_l, vX_j, reduceIte, Int.reduceEq]
    rw [c202 hF hn hf r.1 ir.2.1.1]
    simp (disch := (first | assumption | omega | exact Nat.le_of_ble_eq_true rfl | rfl)) only [w207_0, w207_1, w207_3, w207_6, w207_9, w207_10, w207_13, w207_16, w207_17, w207_19, w207_22, w207_25, w207_26, w207_29, w207_32, w207_33, w207_35, w207_38, w207_41, w207_42, w207_45, w207_48, w207_49, w207_51, w207_54, w207_57, w207_58, w207_61, w207_64, w207_65, w207_67, w207_70, w207_73, w207_74, w207_77, w207_78, w207_79, w207_80, w207_82, w207_85, w207_86, w207_89, w207_90, w207_92, w207_95, w207_98, w207_99, w207_102, w207_103, w207_104, w207_105, w207_106, w207_109, w207_112, w207_113, w207_114, Ko_n, Ko_v, vX_i, vX_r, vX_l, vX_j, reduceIte]
    have := tl _ rfl
    unfold lin0
    rw [w2, if_pos rfl]
    exact this
  | false =>
    rw [w2, if_neg (by simp)] at tl
    rw [tkW_f w2]
    simp (disch := (first | assumption | omega | exact Nat.le_of_ble_eq_true rfl | rfl)) only [w207_0, w207_1, w207_3, w207_6, w207_9, w207_10, w207_13, w207_16, w207_17, w207_19, w207_22, w207_25, w207_26, w207_29, w207_32, w207_33, w207_35, w207_38, w207_41, w207_42, w207_45, w207_48, w207_49, w207_51, w207_54, w207_57, w207_58, w207_61, w207_64, w207_65, w207_67, w207_70, w207_73, w207_74, w207_77, w207_78, w207_79, w207_80, w207_82, w207_85, w207_86, w207_89, w207_90, w207_92, w207_95, w207_98, w207_99, w207_102, w207_103, w207_104, w207_105, w207_106, w207_109, w207_112, w207_113, w207_114, Ko_n, Ko_v, vX_i, vX_r, vX_l, vX_j, reduceIte, Bool.false_eq_true]
    rw [c186w (i := 6) rfl hF hf hs (by omega)]
    cases w6 : isWd f 6 s with
    | true =>
      rw [w6, if_pos rfl] at tl
      simp (disch := (first | assumption | omega | exact Nat.le_of_ble_eq_true rfl | rfl)) only [w207_0, w207_1, w207_3, w207_6, w207_9, w207_10, w207_13, w207_16, w207_17, w207_19, w207_22, w207_25, w207_26, w207_29, w207_32, w207_33, w207_35, w207_38, w207_41, w207_42, w207_45, w207_48, w207_49, w207_51, w207_54, w207_57, w207_58, w207_61, w207_64, w207_65, w207_67, w207_70, w207_73, w207_74, w207_77, w207_78, w207_79, w207_80, w207_82, w207_85, w207_86, w207_89, w207_90, w207_92, w207_95, w207_98, w207_99, w207_102, w207_103, w207_104, w207_105, w207_106, w207_109, w207_112, w207_113, w207_114, Ko_n, Ko_v, vX_i, vX_r, vX_l, vX_j, reduceIte, Int.reduceEq]
      rw [c203 hF hn hf hs h.2.1.1]
      simp (disch := (first | assumption | omega | exact Nat.le_of_ble_eq_true rfl | rfl)) only [w207_0, w207_1, w207_3, w207_6, w207_9, w207_10, w207_13, w207_16, w207_17, w207_19, w207_22, w207_25, w207_26, w207_29, w207_32, w207_33, w207_35, w207_38, w207_41, w207_42, w207_45, w207_48, w207_49, w207_51, w207_54, w207_57, w207_58, w207_61, w207_64, w207_65, w207_67, w207_70, w207_73, w207_74, w207_77, w207_78, w207_79, w207_80, w207_82, w207_85, w207_86, w207_89, w207_90, w207_92, w207_95, w207_98, w207_99, w207_102, w207_103, w207_104, w207_105, w207_106, w207_109, w207_112, w207_113, w207_114, Ko_n, Ko_v, vX_i, vX_r, vX_l, vX_j, reduceIte]
      have := tl _ rfl
      unfold lin0
      rw [w2, if_neg (by simp), w6, if_pos rfl]
      exact this
    | false =>
      rw [w6, if_neg (by simp)] at tl
      simp (disch := (first | assumption | omega | exact Nat.le_of_ble_eq_true rfl | rfl)) only [w207_0, w207_1, w207_3, w207_6, w207_9, w207_10, w207_13, w207_16, w207_17, w207_19, w207_22, w207_25, w207_26, w207_29, w207_32, w207_33, w207_35, w207_38, w207_41, w207_42, w207_45, w207_48, w207_49, w207_51, w207_54, w207_57, w207_58, w207_61, w207_64, w207_65, w207_67, w207_70, w207_73, w207_74, w207_77, w207_78, w207_79, w207_80, w207_82, w207_85, w207_86, w207_89, w207_90, w207_92, w207_95, w207_98, w207_99, w207_102, w207_103, w207_104, w207_105, w207_106, w207_109, w207_112, w207_113, w207_114, Ko_n, Ko_v, vX_i, vX_r, vX_l, vX_j, reduceIte, Bool.false_eq_true]
      rw [c186w (i := 7) rfl hF hf hs (by omega)]
      cases w7 : isWd f 7 s with
      | true =>
        rw [w7, if_pos rfl] at tl
        simp (disch := (first | assumption | omega | exact Nat.le_of_ble_eq_true rfl | rfl)) only [w207_0, w207_1, w207_3, w207_6, w207_9, w207_10, w207_13, w207_16, w207_17, w207_19, w207_22, w207_25, w207_26, w207_29, w207_32, w207_33, w207_35, w207_38, w207_41, w207_42, w207_45, w207_48, w207_49, w207_51, w207_54, w207_57, w207_58, w207_61, w207_64, w207_65, w207_67, w207_70, w207_73, w207_74, w207_77, w207_78, w207_79, w207_80, w207_82, w207_85, w207_86, w207_89, w207_90, w207_92, w207_95, w207_98, w207_99, w207_102, w207_103, w207_104, w207_105, w207_106, w207_109, w207_112, w207_113, w207_114, Ko_n, Ko_v, vX_i, vX_r, vX_l, vX_j, reduceIte, Int.reduceEq]
        rw [c204 hF hn hf hs h.2.1.1 hc4]
        simp (disch := (first | assumption | omega | exact Nat.le_of_ble_eq_true rfl | rfl)) only [w207_0, w207_1, w207_3, w207_6, w207_9, w207_10, w207_13, w207_16, w207_17, w207_19, w207_22, w207_25, w207_26, w207_29, w207_32, w207_33, w207_35, w207_38, w207_41, w207_42, w207_45, w207_48, w207_49, w207_51, w207_54, w207_57, w207_58, w207_61, w207_64, w207_65, w207_67, w207_70, w207_73, w207_74, w207_77, w207_78, w207_79, w207_80, w207_82, w207_85, w207_86, w207_89, w207_90, w207_92, w207_95, w207_98, w207_99, w207_102, w207_103, w207_104, w207_105, w207_106, w207_109, w207_112, w207_113, w207_114, Ko_n, Ko_v, vX_i, vX_r, vX_l, vX_j, reduceIte]
        have := tl _ rfl
        unfold lin0
        rw [w2, if_neg (by simp), w6, if_neg (by simp), w7, if_pos rfl]
        exact this
      | false =>
        rw [w7, if_neg (by simp)] at tl
        simp (disch := (first | assumption | omega | exact Nat.le_of_ble_eq_true rfl | rfl)) only [w207_0, w207_1, w207_3, w207_6, w207_9, w207_10, w207_13, w207_16, w207_17, w207_19, w207_22, w207_25, w207_26, w207_29, w207_32, w207_33, w207_35, w207_38, w207_41, w207_42, w207_45, w207_48, w207_49, w207_51, w207_54, w207_57, w207_58, w207_61, w207_64, w207_65, w207_67, w207_70, w207_73, w207_74, w207_77, w207_78, w207_79, w207_80, w207_82, w207_85, w207_86, w207_89, w207_90, w207_92, w207_95, w207_98, w207_99, w207_102, w207_103, w207_104, w207_105, w207_106, w207_109, w207_112, w207_113, w207_114, Ko_n, Ko_v, vX_i, vX_r, vX_l, vX_j, reduceIte, Bool.false_eq_true]
        rw [c187w (i := 10) rfl hF hn hf hs (by omega)]
        cases w10 : isWd f 10 s with
        | true =>
          rw [w10, if_pos rfl] at tl
          rw [tkW_t w10]
          simp (disch := (first | assumption | omega | exact Nat.le_of_ble_eq_true rfl | rfl)) only [w207_0, w207_1, w207_3, w207_6, w207_9, w207_10, w207_13, w207_16, w207_17, w207_19, w207_22, w207_25, w207_26, w207_29, w207_32, w207_33, w207_35, w207_38, w207_41, w207_42, w207_45, w207_48, w207_49, w207_51, w207_54, w207_57, w207_58, w207_61, w207_64, w207_65, w207_67, w207_70, w207_73, w207_74, w207_77, w207_78, w207_79, w207_80, w207_82, w207_85, w207_86, w207_89, w207_90, w207_92, w207_95, w207_98, w207_99, w207_102, w207_103, w207_104, w207_105, w207_106, w207_109, w207_112, w207_113, w207_114, Ko_n, Ko_v, vX_i, vX_r, vX_l, vX_j, reduceIte, Int.reduceEq]
          rw [c205 hF hn hf r.1 ir.2.1.1]
          simp (disch := (first | assumption | omega | exact Nat.le_of_ble_eq_true rfl | rfl)) only [w207_0, w207_1, w207_3, w207_6, w207_9, w207_10, w207_13, w207_16, w207_17, w207_19, w207_22, w207_25, w207_26, w207_29, w207_32, w207_33, w207_35, w207_38, w207_41, w207_42, w207_45, w207_48, w207_49, w207_51, w207_54, w207_57, w207_58, w207_61, w207_64, w207_65, w207_67, w207_70, w207_73, w207_74, w207_77, w207_78, w207_79, w207_80, w207_82, w207_85, w207_86, w207_89, w207_90, w207_92, w207_95, w207_98, w207_99, w207_102, w207_103, w207_104, w207_105, w207_106, w207_109, w207_112, w207_113, w207_114, Ko_n, Ko_v, vX_i, vX_r, vX_l, vX_j, reduceIte]
          have := tl _ rfl
          unfold lin0
          rw [w2, if_neg (by simp), w6, if_neg (by simp), w7, if_neg (by simp), w10, if_pos rfl]
          exact this
        | false =>
          rw [w10, if_neg (by simp)] at tl
          rw [tkW_f w10]
          simp (disch := (first | assumption | omega | exact Nat.le_of_ble_eq_true rfl | rfl)) only [w207_0, w207_1, w207_3, w207_6, w207_9, w207_10, w207_13, w207_16, w207_17, w207_19, w207_22, w207_25, w207_26, w207_29, w207_32, w207_33, w207_35, w207_38, w207_41, w207_42, w207_45, w207_48, w207_49, w207_51, w207_54, w207_57, w207_58, w207_61, w207_64, w207_65, w207_67, w207_70, w207_73, w207_74, w207_77, w207_78, w207_79, w207_80, w207_82, w207_85, w207_86, w207_89, w207_90, w207_92, w207_95, w207_98, w207_99, w207_102, w207_103, w207_104, w207_105, w207_106, w207_109, w207_112, w207_113, w207_114, Ko_n, Ko_v, vX_i, vX_r, vX_l, vX_j, reduceIte, Bool.false_eq_true]
          rw [c187w (i := 21) rfl hF hn hf hs (by omega)]
          cases w21 : isWd f 21 s with
          | true =>
            rw [w21, if_pos rfl] at tl
            rw [tkW_t w21]
            simp (disch := (first | assumption | omega | exact Nat.le_of_ble_eq_true rfl | rfl)) only [w207_0, w207_1, w207_3, w207_6, w207_9, w207_10, w207_13, w207_16, w207_17, w207_19, w207_22, w207_25, w207_26, w207_29, w207_32, w207_33, w207_35, w207_38, w207_41, w207_42, w207_45, w207_48, w207_49, w207_51, w207_54, w207_57, w207_58, w207_61, w207_64, w207_65, w207_67, w207_70, w207_73, w207_74, w207_77, w207_78, w207_79, w207_80, w207_82, w207_85, w207_86, w207_89, w207_90, w207_92, w207_95, w207_98, w207_99, w207_102, w207_103, w207_104, w207_105, w207_106, w207_109, w207_112, w207_113, w207_114, Ko_n, Ko_v, vX_i, vX_r, vX_l, vX_j, reduceIte, Int.reduceEq]
            rw [c190 hF hn hf r.1 (by omega) (by omega) (by omega) (by omega)]
            simp (disch := (first | assumption | omega | exact Nat.le_of_ble_eq_true rfl | rfl)) only [w207_0, w207_1, w207_3, w207_6, w207_9, w207_10, w207_13, w207_16, w207_17, w207_19, w207_22, w207_25, w207_26, w207_29, w207_32, w207_33, w207_35, w207_38, w207_41, w207_42, w207_45, w207_48, w207_49, w207_51, w207_54, w207_57, w207_58, w207_61, w207_64, w207_65, w207_67, w207_70, w207_73, w207_74, w207_77, w207_78, w207_79, w207_80, w207_82, w207_85, w207_86, w207_89, w207_90, w207_92, w207_95, w207_98, w207_99, w207_102, w207_103, w207_104, w207_105, w207_106, w207_109, w207_112, w207_113, w207_114, Ko_n, Ko_v, vX_i, vX_r, vX_l, vX_j, reduceIte, pS_K, pS_uK]
            have := tl _ rfl
            unfold lin0
            rw [w2, if_neg (by simp), w6, if_neg (by simp), w7, if_neg (by simp), w10, if_neg (by simp), w21, if_pos rfl]
            exact this
          | false =>
            rw [w21, if_neg (by simp)] at tl
            rw [tkW_f w21]
            simp (disch := (first | assumption | omega | exact Nat.le_of_ble_eq_true rfl | rfl)) only [w207_0, w207_1, w207_3, w207_6, w207_9, w207_10, w207_13, w207_16, w207_17, w207_19, w207_22, w207_25, w207_26, w207_29, w207_32, w207_33, w207_35, w207_38, w207_41, w207_42, w207_45, w207_48, w207_49, w207_51, w207_54, w207_57, w207_58, w207_61, w207_64, w207_65, w207_67, w207_70, w207_73, w207_74, w207_77, w207_78, w207_79, w207_80, w207_82, w207_85, w207_86, w207_89, w207_90, w207_92, w207_95, w207_98, w207_99, w207_102, w207_103, w207_104, w207_105, w207_106, w207_109, w207_112, w207_113, w207_114, Ko_n, Ko_v, vX_i, vX_r, vX_l, vX_j, reduceIte, Bool.false_eq_true]
            rw [c187w (i := 11) rfl hF hn hf hs (by omega)]
            cases w11 : isWd f 11 s with
            | true =>
              rw [w11, if_pos rfl] at tl
              rw [tkW_t w11]
              have g := gr_J hf h
              have hc := fun k Q => (truD_ok (T := T) hF hn hf).2 d k Q _ g.1.1 g.1.2.2.1 g.1.2.2.2 (fun z => by omega)
              simp (disch := (first | assumption | omega | exact Nat.le_of_ble_eq_true rfl | rfl)) only [w207_0, w207_1, w207_3, w207_6, w207_9, w207_10, w207_13, w207_16, w207_17, w207_19, w207_22, w207_25, w207_26, w207_29, w207_32, w207_33, w207_35, w207_38, w207_41, w207_42, w207_45, w207_48, w207_49, w207_51, w207_54, w207_57, w207_58, w207_61, w207_64, w207_65, w207_67, w207_70, w207_73, w207_74, w207_77, w207_78, w207_79, w207_80, w207_82, w207_85, w207_86, w207_89, w207_90, w207_92, w207_95, w207_98, w207_99, w207_102, w207_103, w207_104, w207_105, w207_106, w207_109, w207_112, w207_113, w207_114, Ko_n, Ko_v, vX_i, vX_r, vX_l, vX_j, reduceIte, Int.reduceEq, pS_K, pS_uK]
              unfold stK2 at hc
              rw [show pK (rdOn f n s) = pK s from rfl, hc]
              simp (disch := (first | assumption | omega | exact Nat.le_of_ble_eq_true rfl | rfl)) only [w207_0, w207_1, w207_3, w207_6, w207_9, w207_10, w207_13, w207_16, w207_17, w207_19, w207_22, w207_25, w207_26, w207_29, w207_32, w207_33, w207_35, w207_38, w207_41, w207_42, w207_45, w207_48, w207_49, w207_51, w207_54, w207_57, w207_58, w207_61, w207_64, w207_65, w207_67, w207_70, w207_73, w207_74, w207_77, w207_78, w207_79, w207_80, w207_82, w207_85, w207_86, w207_89, w207_90, w207_92, w207_95, w207_98, w207_99, w207_102, w207_103, w207_104, w207_105, w207_106, w207_109, w207_112, w207_113, w207_114, Ko_n, Ko_v, vX_i, vX_r, vX_l, vX_j, reduceIte]
              have := tl _ rfl
              unfold lin0
              rw [w2, if_neg (by simp), w6, if_neg (by simp), w7, if_neg (by simp), w10, if_neg (by simp), w21, if_neg (by simp), w11, if_pos rfl]
              exact this
            | false =>
              rw [w11, if_neg (by simp)] at tl
              rw [tkW_f w11]
              simp (disch := (first | assumption | omega | exact Nat.le_of_ble_eq_true rfl | rfl)) only [w207_0, w207_1, w207_3, w207_6, w207_9, w207_10, w207_13, w207_16, w207_17, w207_19, w207_22, w207_25, w207_26, w207_29, w207_32, w207_33, w207_35, w207_38, w207_41, w207_42, w207_45, w207_48, w207_49, w207_51, w207_54, w207_57, w207_58, w207_61, w207_64, w207_65, w207_67, w207_70, w207_73, w207_74, w207_77, w207_78, w207_79, w207_80, w207_82, w207_85, w207_86, w207_89, w207_90, w207_92, w207_95, w207_98, w207_99, w207_102, w207_103, w207_104, w207_105, w207_106, w207_109, w207_112, w207_113, w207_114, Ko_n, Ko_v, vX_i, vX_r, vX_l, vX_j, reduceIte, Bool.false_eq_true]
              rw [c185 hs]
              simp (disch := (first | assumption | omega | exact Nat.le_of_ble_eq_true rfl | rfl)) only [w207_0, w207_1, w207_3, w207_6, w207_9, w207_10, w207_13, w207_16, w207_17, w207_19, w207_22, w207_25, w207_26, w207_29, w207_32, w207_33, w207_35, w207_38, w207_41, w207_42, w207_45, w207_48, w207_49, w207_51, w207_54, w207_57, w207_58, w207_61, w207_64, w207_65, w207_67, w207_70, w207_73, w207_74, w207_77, w207_78, w207_79, w207_80, w207_82, w207_85, w207_86, w207_89, w207_90, w207_92, w207_95, w207_98, w207_99, w207_102, w207_103, w207_104, w207_105, w207_106, w207_109, w207_112, w207_113, w207_114, Ko_n, Ko_v, vX_i, vX_r, vX_l, vX_j, reduceIte]
              have := tl _ rfl
              unfold lin0
              rw [w2, if_neg (by simp), w6, if_neg (by simp), w7, if_neg (by simp), w10, if_neg (by simp), w21, if_neg (by simp), w11, if_neg (by simp)]
              exact this
