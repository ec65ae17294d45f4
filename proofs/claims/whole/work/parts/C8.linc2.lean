/-! ===== the class reads lines: walkers, errands ===== -/
def wkF (σ : St) (w z a : Int) (b : Bool) : St := plW (upA (upA σ 702 84 (fu (σ 702 84) w z)) 703 84 (fu (σ 703 84) w a)) 77 b
theorem wkF_o {σ : St} {w z a : Int} {b : Bool} {t o : Nat} (h7 : o ≠ 77) (h8 : o ≠ 84) : wkF σ w z a b t o = σ t o := by
  unfold wkF plW
  rw [upA_o h7, upA_o h7, upA_o h8, upA_o h8]
theorem wkF_7 {σ : St} {w z a : Int} {b : Bool} {t : Nat} (h4 : t ≠ 404) (h5 : t ≠ 405) : wkF σ w z a b t 77 = σ t 77 := by
  unfold wkF plW
  rw [upA_t h4, upA_t h5, upA_o (by omega), upA_o (by omega)]
theorem wkF_8 {σ : St} {w z a : Int} {b : Bool} {t : Nat} (h4 : t ≠ 702) (h5 : t ≠ 703) : wkF σ w z a b t 84 = σ t 84 := by
  unfold wkF plW
  rw [upA_o (by omega), upA_o (by omega), upA_t h5, upA_t h4]
theorem Dc_wk {σ : St} {s t : Ps} {z a : Int} {b : Bool} (h : Dc σ s) (h0 : flt s = 0) (hT : tW (pK s)) (h3 : pK s 3 < 5) (hk : pK t = wkS (if b then fu (pK s) 92 (oo (pK s 92) (sl 1 (pK s 3))) else pK s) (pK s 3) z a) : Dc (wkF σ (pK s 3) z a b) t := by
  obtain ⟨a1, a2, a3, a4, a5, a6⟩ := h
  obtain ⟨hp, hs⟩ := a6 h0
  have k3 := hT.2.2.1
  rw [tsc_W] at hs
  have e4 : wkF σ (pK s 3) z a b 404 77 = fun _ => pK s 3 + 1 := by
    unfold wkF plW
    rw [upA_s, upA_o (by omega), upA_o (by omega), hp.2.2.2.1]
  have e5 : wkF σ (pK s 3) z a b 405 77 = fun _ => if b then oo (pK s 92) (sl 1 (pK s 3)) else pK s 92 := by
    unfold wkF plW
    rw [upA_t (by omega), upA_s, upA_o (by omega), upA_o (by omega), upA_o (by omega), upA_o (by omega), hp.2.2.2.2.2.2.1, hp.2.2.2.1]
  have e2 : wkF σ (pK s 3) z a b 702 84 = fu (σ 702 84) (pK s 3) z := by
    unfold wkF plW
    rw [upA_o (by omega), upA_o (by omega), upA_t (by omega), upA_s]
  have e3 : wkF σ (pK s 3) z a b 703 84 = fu (σ 703 84) (pK s 3) a := by
    unfold wkF plW
    rw [upA_o (by omega), upA_o (by omega), upA_s]
  generalize hK2 : (if b then fu (pK s) 92 (oo (pK s 92) (sl 1 (pK s 3))) else pK s) = K2 at *
  have o2 : ∀ j, j ≠ 92 → K2 j = pK s j := fun j hj => by
    rw [← hK2]
    split
    · exact fu_n hj
    · rfl
  have o92 : K2 92 = if b then oo (pK s 92) (sl 1 (pK s 3)) else pK s 92 := by
    rw [← hK2]
    cases b
    · rfl
    · simp only [if_true]; exact fu_s
  have o : ∀ j, j ≠ 79 + pK s 3 → j ≠ 84 + pK s 3 → j ≠ 3 → j ≠ 92 → wkS K2 (pK s 3) z a j = pK s j := fun j h1 h2 h3 h4 => by unfold wkS; rw [fu_n h3, fu_n h2, fu_n h1, o2 j h4]
  have q3 : wkS K2 (pK s 3) z a 3 = pK s 3 + 1 := by unfold wkS; rw [fu_s, o2 3 (by omega)]
  have q92 : wkS K2 (pK s 3) z a 92 = if b then oo (pK s 92) (sl 1 (pK s 3)) else pK s 92 := by unfold wkS; rw [fu_n (by omega), fu_n (by omega), fu_n (by omega), o92]
  refine ⟨by rw [wkF_7 (by omega) (by omega)]; exact a1, by rw [wkF_7 (by omega) (by omega)]; exact a2, by rw [e4]; show 0 ≤ pK s 3 + 1 ∧ pK s 3 + 1 ≤ 5; omega, by rw [wkF_o (by omega) (by omega)]; exact a4, by rw [e5], fun _ => ?_⟩
  rw [hk]
  obtain ⟨p0, p1, p2, p3, p4, p5, p6, p7, p8, p9, p10⟩ := hp
  refine ⟨⟨?_, ?_, ?_, ?_, ?_, ?_, ?_, fun w w0 w1 => ?_, fun w e w0 w1 e0 e1 => ?_, ?_, fun i i0 i1 => ?_⟩, ?_⟩
  · rw [wkF_7 (by omega) (by omega), o 0 (by omega) (by omega) (by omega) (by omega)]; exact p0
  · rw [wkF_7 (by omega) (by omega), o 1 (by omega) (by omega) (by omega) (by omega)]; exact p1
  · rw [wkF_7 (by omega) (by omega), o 2 (by omega) (by omega) (by omega) (by omega)]; exact p2
  · rw [e4, q3]
  · rw [wkF_7 (by omega) (by omega), o 4 (by omega) (by omega) (by omega) (by omega)]; exact p4
  · rw [wkF_o (by omega) (by omega), o 5 (by omega) (by omega) (by omega) (by omega)]; exact p5
  · rw [e5, q92]
  · rw [wkF_7 (by omega) (by omega), o (93 + w) (by omega) (by omega) (by omega) (by omega)]; exact p7 w w0 w1
  · rw [o (93 + w) (by omega) (by omega) (by omega) (by omega)] at e1
    rw [wkF_7 (by omega) (by omega), wkF_7 (by omega) (by omega), o (98 + 4 * w + e) (by omega) (by omega) (by omega) (by omega), o (118 + 4 * w + e) (by omega) (by omega) (by omega) (by omega)]
    exact p8 w e w0 w1 e0 e1
  · rw [o 1 (by omega) (by omega) (by omega) (by omega), o 2 (by omega) (by omega) (by omega) (by omega)]
    unfold geo at p9 ⊢
    rw [wkF_7 (by omega) (by omega), wkF_7 (by omega) (by omega), wkF_7 (by omega) (by omega), wkF_7 (by omega) (by omega), wkF_7 (by omega) (by omega), wkF_7 (by omega) (by omega)]
    exact p9
  · rw [o 5 (by omega) (by omega) (by omega) (by omega)] at i1
    have := p10 i i0 i1
    unfold cdK at this ⊢
    rw [wkF_o (by omega) (by omega), o (988 + i) (by omega) (by omega) (by omega) (by omega)]
    exact this
  · rw [tsc_W]
    obtain ⟨s1, s2, s3, s4, s5⟩ := hs
    refine ⟨fun k k0 k1 => ?_, fun w w0 w1 => ?_, ?_, ?_, ?_⟩
    · rw [wkF_8 (by omega) (by omega), wkF_8 (by omega) (by omega), o (7 + k) (by omega) (by omega) (by omega) (by omega), o (43 + k) (by omega) (by omega) (by omega) (by omega)]
      exact s1 k k0 k1
    · rw [q3] at w1
      rw [e2, e3]
      by_cases e : w = pK s 3
      · rw [e, fu_s, fu_s]
        unfold wkS
        rw [fu_n (by omega), fu_n (by omega), fu_s, fu_n (by omega), fu_s]
        exact ⟨rfl, rfl⟩
      · rw [fu_n e, fu_n e, o (79 + w) (by omega) (by omega) (by omega) (by omega), o (84 + w) (by omega) (by omega) (by omega) (by omega)]
        exact s2 w w0 (by omega)
    · rw [wkF_8 (by omega) (by omega), o 89 (by omega) (by omega) (by omega) (by omega)]; exact s3
    · rw [wkF_8 (by omega) (by omega), o 90 (by omega) (by omega) (by omega) (by omega)]; exact s4
    · rw [wkF_8 (by omega) (by omega), o 91 (by omega) (by omega) (by omega) (by omega)]; exact s5
/-- a walker's rest behind a fault: nothing more comes of it -/
theorem wkr_e {f : Int → Int} {n : Int} {s : Ps} {s1 : Ps} (h1 : s1 = rdO f n (if pK s 3 = 5 then blm 4 s else s)) (hb : pB s1 = 0) : wkr f n s = (
    let x := nmb f n 0 (pK s 1 - 1) s1
    let s2 := if pB x.2 = 0 ∧ pT x.2 = 2 ∧ pV x.2 < pK s 2 ∧ pK s (7 + pK s 1 * pV x.2 + x.1) = 4 then blm 3 x.2 else x.2
    let y := nmb f n 0 (pK s 2 - 1) s2
    let s3 := if isWd f 8 y.2 then stK2 (fu (pK s) 92 (oo (pK s 92) (sl 1 (pK s 3)))) (rdOn f n y.2) else y.2
    let a := if isWd f 9 s3 then nmb f n 0 999 (rdOn f n s3) else (0, s3)
    if pB a.2 = 0 then stK2 (wkS (pK a.2) (pK s 3) (pK s 1 * y.1 + x.1) a.1) a.2 else a.2) := by
  subst h1
  unfold wkr
  dsimp only
  rw [if_pos hb]
/-- the last of it -/
def wkE (f : Int → Int) (n : Int) (s : Ps) (x : Int) (y : Int × Ps) : Ps :=
  let s3 := if isWd f 8 y.2 then stK2 (fu (pK s) 92 (oo (pK s 92) (sl 1 (pK s 3)))) (rdOn f n y.2) else y.2
  let a := if isWd f 9 s3 then nmb f n 0 999 (rdOn f n s3) else (0, s3)
  if pB a.2 = 0 then stK2 (wkS (pK a.2) (pK s 3) (pK s 1 * y.1 + x) a.1) a.2 else a.2
theorem wkE_f {f : Int → Int} {n x : Int} {s : Ps} {y : Int × Ps} (h : flt y.2 ≠ 0) : flt (wkE f n s x y) = flt y.2 ∧ fpl (wkE f n s x y) = fpl y.2 := by
  unfold wkE
  dsimp only
  rw [isWd_n h, if_neg Bool.false_ne_true, isWd_n h, if_neg Bool.false_ne_true]
  dsimp only
  split
  · exact ⟨rfl, rfl⟩
  · exact ⟨rfl, rfl⟩
theorem c55 {d : Nat} {k n : Int} {f : Int → Int} {T : Tt} {σ : St} {s : Ps} {Q : vmO → vmH → Prop} (hR : Rc f n σ s) (hD : Dc σ s) (hf : tpOk f n) (hs : pO n s) (ht : tW (pK s)) (hc4 : ∀ j, 0 ≤ j → j < 36 → 0 ≤ pK s (7 + j) ∧ pK s (7 + j) ≤ 4) (he : flt s = 0) (hw : pT s = 1) (hQ : ∀ τ, Rc f n τ (wkr f n s) → Dc τ (wkr f n s) → fW σ τ → Q (.inl none) (E T τ)) : Ca (d + 7) k 55 [.ref 75] (E T σ) Q := by
  have h0 := ob_rd
  have hp := ob_fp
  have hsc := ob_fs
  have hb := (flt_0 he).1
  have hd1 := hD.1
  have hd2 := hD.2.1
  have hd3 := hD.2.2.1
  obtain ⟨tp, ts⟩ := hD.2.2.2.2.2 he
  have hK1 := tp.2.1
  have hK2 := tp.2.2.1
  have hK3 := tp.2.2.2.1
  have e1 := ht.1
  have e2 := ht.2.1
  have e3 := ht.2.2.1
  have hm := wh_mul (W := pK s 1) (H := pK s 2) ⟨e1.1, e1.2, e2.1, e2.2⟩
  rw [n55 _ _ _ _ _ _ h0]
  by_cases e5 : pK s 3 = 5
  · have hq : wkr f n s = blm 4 s := by
      unfold wkr
      dsimp only
      rw [if_pos e5, rdO_b (blm_O hs (by omega) (by omega)).2, if_neg (blm_O hs (by omega) (by omega)).2]
    rw [hq] at hQ
    simp (disch := (first | assumption | omega | exact Nat.le_of_ble_eq_true rfl | rfl)) only [w55_0, w55_1, w55_4, w55_7, w55_8, w55_11, w55_12, w55_13, w55_16, w55_17, w55_18, w55_21, w55_22, w55_23, w55_24, w55_27, w55_30, w55_31, w55_32, w55_35, w55_36, w55_37, w55_38, w55_39, w55_42, w55_45, w55_46, w55_47, w55_50, w55_51, w55_52, w55_55, w55_58, w55_59, w55_60, w55_63, w55_66, w55_67, w55_68, w55_69, w55_70, w55_71, w55_72, w55_75, w55_78, w55_79, w55_80, w55_81, w55_84, w55_85, w55_86, w55_89, w55_90, w55_91, w55_94, w55_95, w55_97, w55_100, w55_102, w55_103, w55_105, w55_108, w55_111, w55_112, w55_113, w55_116, w55_119, w55_122, w55_123, w55_125, w55_126, w55_129, w55_132, w55_133, w55_136, w55_139, w55_140, w55_143, w55_146, w55_147, w55_148, w55_149, w55_152, w55_155, w55_156, w55_159, w55_162, w55_164, w55_165, w55_166, w55_169, w55_171, w55_174, Ko_n, Ko_v, vX_i, vX_r, vX_l, vX_j, reduceIte, Nat.reduceAdd, hK3, show ¬ pK s 3 < 5 by omega]
    refine c39 hR hs (by omega) fun τ h1 h2 => ?_
    simp (disch := (first | assumption | omega | exact Nat.le_of_ble_eq_true rfl | rfl)) only [w55_0, w55_1, w55_4, w55_7, w55_8, w55_11, w55_12, w55_13, w55_16, w55_17, w55_18, w55_21, w55_22, w55_23, w55_24, w55_27, w55_30, w55_31, w55_32, w55_35, w55_36, w55_37, w55_38, w55_39, w55_42, w55_45, w55_46, w55_47, w55_50, w55_51, w55_52, w55_55, w55_58, w55_59, w55_60, w55_63, w55_66, w55_67, w55_68, w55_69, w55_70, w55_71, w55_72, w55_75, w55_78, w55_79, w55_80, w55_81, w55_84, w55_85, w55_86, w55_89, w55_90, w55_91, w55_94, w55_95, w55_97, w55_100, w55_102, w55_103, w55_105, w55_108, w55_111, w55_112, w55_113, w55_116, w55_119, w55_122, w55_123, w55_125, w55_126, w55_129, w55_132, w55_133, w55_136, w55_139, w55_140, w55_143, w55_146, w55_147, w55_148, w55_149, w55_152, w55_155, w55_156, w55_159, w55_162, w55_164, w55_165, w55_166, w55_169, w55_171, w55_174, Ko_n, Ko_v, vX_i, vX_r, vX_l, vX_j, reduceIte]
    exact hQ τ h1 (Dc_f (Dc_R hD h2 (fun z => z) rfl) (fun z => (blm_O hs (k := 4) (by omega) (by omega)).2 (flt_0 z).1)) (fR_W h2)
  · have hq := wkr_e (f := f) (n := n) (s := s) (s1 := rdOn f n s) (by rw [if_neg e5]; unfold rdO; rw [if_pos hb]) hb
    dsimp only at hq
    have r := Mv_rd hf hs
    have mx := Mv_nm (lo := 0) (hi := pK s 1 - 1) hf r.1
    have vx := nmb_v (f := f) (lo := 0) (hi := pK s 1 - 1) r.1
    have vx1 := vx.2.1 (by omega)
    have hq2 : wkr f n s = wkE f n s (nmb f n 0 (pK s 1 - 1) (rdOn f n s)).1 (nmb f n 0 (pK s 2 - 1) (if pB (nmb f n 0 (pK s 1 - 1) (rdOn f n s)).2 = 0 ∧ pT (nmb f n 0 (pK s 1 - 1) (rdOn f n s)).2 = 2 ∧ pV (nmb f n 0 (pK s 1 - 1) (rdOn f n s)).2 < pK s 2 ∧ pK s (7 + pK s 1 * pV (nmb f n 0 (pK s 1 - 1) (rdOn f n s)).2 + (nmb f n 0 (pK s 1 - 1) (rdOn f n s)).1) = 4 then blm 3 (nmb f n 0 (pK s 1 - 1) (rdOn f n s)).2 else (nmb f n 0 (pK s 1 - 1) (rdOn f n s)).2)) := hq
    rw [hq2] at hQ
    clear hq hq2
    simp (disch := (first | assumption | omega | exact Nat.le_of_ble_eq_true rfl | rfl)) only [w55_0, w55_1, w55_4, w55_7, w55_8, w55_11, w55_12, w55_13, w55_16, w55_17, w55_18, w55_21, w55_22, w55_23, w55_24, w55_27, w55_30, w55_31, w55_32, w55_35, w55_36, w55_37, w55_38, w55_39, w55_42, w55_45, w55_46, w55_47, w55_50, w55_51, w55_52, w55_55, w55_58, w55_59, w55_60, w55_63, w55_66, w55_67, w55_68, w55_69, w55_70, w55_71, w55_72, w55_75, w55_78, w55_79, w55_80, w55_81, w55_84, w55_85, w55_86, w55_89, w55_90, w55_91, w55_94, w55_95, w55_97, w55_100, w55_102, w55_103, w55_105, w55_108, w55_111, w55_112, w55_113, w55_116, w55_119, w55_122, w55_123, w55_125, w55_126, w55_129, w55_132, w55_133, w55_136, w55_139, w55_140, w55_143, w55_146, w55_147, w55_148, w55_149, w55_152, w55_155, w55_156, w55_159, w55_162, w55_164, w55_165, w55_166, w55_169, w55_171, w55_174, Ko_n, Ko_v, vX_i, vX_r, vX_l, vX_j, reduceIte, Nat.reduceAdd, hK3, show pK s 3 < 5 by omega]
    refine c40 hR hf hs he fun τ h1 h2 => ?_
    have t1 : τ 401 77 = σ 401 77 := h2 401 77 (by omega)
    simp (disch := (first | assumption | omega | exact Nat.le_of_ble_eq_true rfl | rfl)) only [w55_0, w55_1, w55_4, w55_7, w55_8, w55_11, w55_12, w55_13, w55_16, w55_17, w55_18, w55_21, w55_22, w55_23, w55_24, w55_27, w55_30, w55_31, w55_32, w55_35, w55_36, w55_37, w55_38, w55_39, w55_42, w55_45, w55_46, w55_47, w55_50, w55_51, w55_52, w55_55, w55_58, w55_59, w55_60, w55_63, w55_66, w55_67, w55_68, w55_69, w55_70, w55_71, w55_72, w55_75, w55_78, w55_79, w55_80, w55_81, w55_84, w55_85, w55_86, w55_89, w55_90, w55_91, w55_94, w55_95, w55_97, w55_100, w55_102, w55_103, w55_105, w55_108, w55_111, w55_112, w55_113, w55_116, w55_119, w55_122, w55_123, w55_125, w55_126, w55_129, w55_132, w55_133, w55_136, w55_139, w55_140, w55_143, w55_146, w55_147, w55_148, w55_149, w55_152, w55_155, w55_156, w55_159, w55_162, w55_164, w55_165, w55_166, w55_169, w55_171, w55_174, Ko_n, Ko_v, vX_i, vX_r, vX_l, vX_j, reduceIte, Nat.reduceAdd, t1, hK1]
    refine c48 h1 hf r.1 (by omega) (by omega) (by omega) (by omega) fun ρ x h3 h4 h5 h6 => ?_
    have r2 : ρ 402 77 = σ 402 77 := (fR_t h2 h4) 402 77 (by omega)
    generalize nmb f n 0 (pK s 1 - 1) (rdOn f n s) = X at *
    simp (disch := (first | assumption | omega | exact Nat.le_of_ble_eq_true rfl | rfl)) only [w55_0, w55_1, w55_4, w55_7, w55_8, w55_11, w55_12, w55_13, w55_16, w55_17, w55_18, w55_21, w55_22, w55_23, w55_24, w55_27, w55_30, w55_31, w55_32, w55_35, w55_36, w55_37, w55_38, w55_39, w55_42, w55_45, w55_46, w55_47, w55_50, w55_51, w55_52, w55_55, w55_58, w55_59, w55_60, w55_63, w55_66, w55_67, w55_68, w55_69, w55_70, w55_71, w55_72, w55_75, w55_78, w55_79, w55_80, w55_81, w55_84, w55_85, w55_86, w55_89, w55_90, w55_91, w55_94, w55_95, w55_97, w55_100, w55_102, w55_103, w55_105, w55_108, w55_111, w55_112, w55_113, w55_116, w55_119, w55_122, w55_123, w55_125, w55_126, w55_129, w55_132, w55_133, w55_136, w55_139, w55_140, w55_143, w55_146, w55_147, w55_148, w55_149, w55_152, w55_155, w55_156, w55_159, w55_162, w55_164, w55_165, w55_166, w55_169, w55_171, w55_174, Ko_n, Ko_v, vX_i, vX_r, vX_l, vX_j, reduceIte, Nat.reduceAdd, r2, hK2]
    refine c47 h3 mx.1 (by omega) (by omega) (by omega) (by omega) fun ω h7 h8 => ?_
    have hO := lkN_O (lo := 0) (hi := pK s 2 - 1) mx.1
    have hfi := flt_in hO
    have fr := fR_t h2 (fR_t h4 h8)
    by_cases e6 : flt (lkN 0 (pK s 2 - 1) X.2) = 0
    · have l0 := lkN_0 mx.1 (flt_0 e6).1
      rw [l0.1] at h7
      have efx : flt X.2 = 0 := by rw [← l0.1]; exact e6
      have hx := h6 efx
      rw [if_pos (flt_0 e6).1]
      have q1 : pK s 1 * pV X.2 ≤ pK s 1 * (pK s 2 - 1) := Int.mul_le_mul_of_nonneg_left l0.2.2.2.2 (by omega)
      have q2 : 0 ≤ pK s 1 * pV X.2 := Int.mul_nonneg (by omega) l0.2.2.2.1
      rw [Int.mul_sub, Int.mul_one] at q1
      have w1 : ω 401 77 = σ 401 77 := fr 401 77 (by omega)
      have w7 : ω 700 84 = σ 700 84 := fr 700 84 (by omega)
      have hk7 : σ 700 84 (pK s 1 * pV X.2 + X.1) = pK s (7 + pK s 1 * pV X.2 + X.1) := by
        rw [(tsc_W.mp ts).1 (pK s 1 * pV X.2 + X.1) (by omega) (by omega) |>.1]
        congr 1; omega
      have q3 := hc4 (pK s 1 * pV X.2 + X.1) (by omega) (by omega)
      rw [show 7 + (pK s 1 * pV X.2 + X.1) = 7 + pK s 1 * pV X.2 + X.1 by omega] at q3
      subst hx
      by_cases e7 : pK s (7 + pK s 1 * pV X.2 + X.1) = 4
      · rw [if_pos ⟨l0.2.1, l0.2.2.1, by omega, e7⟩] at hQ
        simp (disch := (first | assumption | omega | exact Nat.le_of_ble_eq_true rfl | rfl)) only [w55_0, w55_1, w55_4, w55_7, w55_8, w55_11, w55_12, w55_13, w55_16, w55_17, w55_18, w55_21, w55_22, w55_23, w55_24, w55_27, w55_30, w55_31, w55_32, w55_35, w55_36, w55_37, w55_38, w55_39, w55_42, w55_45, w55_46, w55_47, w55_50, w55_51, w55_52, w55_55, w55_58, w55_59, w55_60, w55_63, w55_66, w55_67, w55_68, w55_69, w55_70, w55_71, w55_72, w55_75, w55_78, w55_79, w55_80, w55_81, w55_84, w55_85, w55_86, w55_89, w55_90, w55_91, w55_94, w55_95, w55_97, w55_100, w55_102, w55_103, w55_105, w55_108, w55_111, w55_112, w55_113, w55_116, w55_119, w55_122, w55_123, w55_125, w55_126, w55_129, w55_132, w55_133, w55_136, w55_139, w55_140, w55_143, w55_146, w55_147, w55_148, w55_149, w55_152, w55_155, w55_156, w55_159, w55_162, w55_164, w55_165, w55_166, w55_169, w55_171, w55_174, Ko_n, Ko_v, vX_i, vX_r, vX_l, vX_j, reduceIte, h7.2.2.2.2.2.1, efx, Nat.reduceAdd, w1, hK1, w7, hk7, e7, not_true]
        have hB := blm_O mx.1 (k := 3) (by omega) (by omega)
        refine c39 h7 mx.1 (by omega) fun χ h9 h10 => ?_
        simp (disch := (first | assumption | omega | exact Nat.le_of_ble_eq_true rfl | rfl)) only [w55_0, w55_1, w55_4, w55_7, w55_8, w55_11, w55_12, w55_13, w55_16, w55_17, w55_18, w55_21, w55_22, w55_23, w55_24, w55_27, w55_30, w55_31, w55_32, w55_35, w55_36, w55_37, w55_38, w55_39, w55_42, w55_45, w55_46, w55_47, w55_50, w55_51, w55_52, w55_55, w55_58, w55_59, w55_60, w55_63, w55_66, w55_67, w55_68, w55_69, w55_70, w55_71, w55_72, w55_75, w55_78, w55_79, w55_80, w55_81, w55_84, w55_85, w55_86, w55_89, w55_90, w55_91, w55_94, w55_95, w55_97, w55_100, w55_102, w55_103, w55_105, w55_108, w55_111, w55_112, w55_113, w55_116, w55_119, w55_122, w55_123, w55_125, w55_126, w55_129, w55_132, w55_133, w55_136, w55_139, w55_140, w55_143, w55_146, w55_147, w55_148, w55_149, w55_152, w55_155, w55_156, w55_159, w55_162, w55_164, w55_165, w55_166, w55_169, w55_171, w55_174, Ko_n, Ko_v, vX_i, vX_r, vX_l, vX_j, reduceIte]
        have z1 : flt (blm 3 X.2) ≠ 0 := fun z => hB.2 (flt_0 z).1
        have z2 := nmb_f (f := f) (lo := 0) (hi := pK s 2 - 1) hB.1 z1
        have z3 := wkE_f (f := f) (n := n) (x := X.1) (s := s) (y := nmb f n 0 (pK s 2 - 1) (blm 3 X.2)) (by rw [z2.1]; exact z1)
        exact hQ χ (Rc_f h9 z1 (by rw [z3.1, z2.1]) (by rw [z3.2, z2.2])) (Dc_f (Dc_R hD (fR_t fr h10) (fun z => z) rfl) (by rw [z3.1, z2.1]; exact z1)) (fR_W (fR_t fr h10))
      · rw [if_neg (fun w => e7 w.2.2.2)] at hQ
        have hy : nmb f n 0 (pK s 2 - 1) X.2 = (pV X.2, rdOn f n X.2) := by
          unfold nmb rdO
          rw [l0.1, if_pos l0.2.1, if_pos l0.2.1]
        rw [hy] at hQ
        simp (disch := (first | assumption | omega | exact Nat.le_of_ble_eq_true rfl | rfl)) only [w55_0, w55_1, w55_4, w55_7, w55_8, w55_11, w55_12, w55_13, w55_16, w55_17, w55_18, w55_21, w55_22, w55_23, w55_24, w55_27, w55_30, w55_31, w55_32, w55_35, w55_36, w55_37, w55_38, w55_39, w55_42, w55_45, w55_46, w55_47, w55_50, w55_51, w55_52, w55_55, w55_58, w55_59, w55_60, w55_63, w55_66, w55_67, w55_68, w55_69, w55_70, w55_71, w55_72, w55_75, w55_78, w55_79, w55_80, w55_81, w55_84, w55_85, w55_86, w55_89, w55_90, w55_91, w55_94, w55_95, w55_97, w55_100, w55_102, w55_103, w55_105, w55_108, w55_111, w55_112, w55_113, w55_116, w55_119, w55_122, w55_123, w55_125, w55_126, w55_129, w55_132, w55_133, w55_136, w55_139, w55_140, w55_143, w55_146, w55_147, w55_148, w55_149, w55_152, w55_155, w55_156, w55_159, w55_162, w55_164, w55_165, w55_166, w55_169, w55_171, w55_174, Ko_n, Ko_v, vX_i, vX_r, vX_l, vX_j, reduceIte, h7.2.2.2.2.2.1, efx, Nat.reduceAdd, w1, hK1, w7, hk7, e7, not_true, not_false_eq_true]
        refine c40 h7 hf mx.1 efx fun χ h9 h10 => ?_
        have fr2 := fR_t fr h10
        have ry := Mv_rd hf mx.1
        generalize rdOn f n X.2 = Y at *
        -- free
        have tail : ∀ (b : Bool) (χ : St) (s3 : Ps), Rc f n χ s3 → fR σ χ → pO n s3 → (pK s3 = if b then fu (pK s) 92 (oo (pK s 92) (sl 1 (pK s 3))) else pK s) → (∀ τ, Rc f n τ (let a := if isWd f 9 s3 then nmb f n 0 999 (rdOn f n s3) else (0, s3); if pB a.2 = 0 then stK2 (wkS (pK a.2) (pK s 3) (pK s 1 * pV X.2 + X.1) a.1) a.2 else a.2) → Dc τ (let a := if isWd f 9 s3 then nmb f n 0 999 (rdOn f n s3) else (0, s3); if pB a.2 = 0 then stK2 (wkS (pK a.2) (pK s 3) (pK s 1 * pV X.2 + X.1) a.1) a.2 else a.2) → fW σ τ → Q (.inl none) (E T τ)) → Wp (d + 7) M_X5_readWalker 102 [.ref 75, .int (i32 X.1), .int (i32 (pV X.2)), .int (i32 (pK s 1 * pV X.2 + X.1)), .int (i32 (if b then 1 else 0)), vmJ] [] (E T χ) Q := by
          intro b χ s3 g1 g2 g3 g4 hQ
          dsimp only at hQ
          have fin : ∀ (χ : St) (a : Int × Ps) (v : Int), Rc f n χ a.2 → fR σ χ → pO n a.2 → (flt a.2 = 0 → v = a.1) → (pK a.2 = if b then fu (pK s) 92 (oo (pK s 92) (sl 1 (pK s 3))) else pK s) → (∀ τ, Rc f n τ (if pB a.2 = 0 then stK2 (wkS (pK a.2) (pK s 3) (pK s 1 * pV X.2 + X.1) a.1) a.2 else a.2) → Dc τ (if pB a.2 = 0 then stK2 (wkS (pK a.2) (pK s 3) (pK s 1 * pV X.2 + X.1) a.1) a.2 else a.2) → fW σ τ → Q (.inl none) (E T τ)) → Wp (d + 7) M_X5_readWalker 125 [.ref 75, .int (i32 X.1), .int (i32 (pV X.2)), .int (i32 (pK s 1 * pV X.2 + X.1)), .int (i32 (if b then 1 else 0)), .int (i32 v)] [] (E T χ) Q := by
            intro χ a v g1 g2 g3 g4 g5 hQ
            have hfa := flt_in g3
            by_cases e8 : flt a.2 = 0
            · have hDx : Dc χ s := Dc_R hD g2 (fun z => z) rfl
              have c3 : χ 404 77 0 = pK s 3 := by rw [g2 404 77 (by omega)]; exact hK3
              rw [if_pos (flt_0 e8).1] at hQ
              rw [g4 e8]
              simp (disch := (first | assumption | omega | exact Nat.le_of_ble_eq_true rfl | rfl)) only [w55_0, w55_1, w55_4, w55_7, w55_8, w55_11, w55_12, w55_13, w55_16, w55_17, w55_18, w55_21, w55_22, w55_23, w55_24, w55_27, w55_30, w55_31, w55_32, w55_35, w55_36, w55_37, w55_38, w55_39, w55_42, w55_45, w55_46, w55_47, w55_50, w55_51, w55_52, w55_55, w55_58, w55_59, w55_60, w55_63, w55_66, w55_67, w55_68, w55_69, w55_70, w55_71, w55_72, w55_75, w55_78, w55_79, w55_80, w55_81, w55_84, w55_85, w55_86, w55_89, w55_90, w55_91, w55_94, w55_95, w55_97, w55_100, w55_102, w55_103, w55_105, w55_108, w55_111, w55_112, w55_113, w55_116, w55_119, w55_122, w55_123, w55_125, w55_126, w55_129, w55_132, w55_133, w55_136, w55_139, w55_140, w55_143, w55_146, w55_147, w55_148, w55_149, w55_152, w55_155, w55_156, w55_159, w55_162, w55_164, w55_165, w55_166, w55_169, w55_171, w55_174, Ko_n, Ko_v, vX_i, vX_r, vX_l, vX_j, reduceIte, g1.2.2.2.2.2.1, e8, Nat.reduceAdd, c3, upA_t, not_true]
              have h5 : (upA (upA χ 702 84 (fu (χ 702 84) (pK s 3) (pK s 1 * pV X.2 + X.1))) 703 84 (fu (χ 703 84) (pK s 3) a.1)) 405 77 = fun _ => (upA (upA χ 702 84 (fu (χ 702 84) (pK s 3) (pK s 1 * pV X.2 + X.1))) 703 84 (fu (χ 703 84) (pK s 3) a.1)) 405 77 0 := by
                rw [upA_o (by omega), upA_o (by omega)]
                exact hDx.2.2.2.2.1
              rw [c34 hp h5]
              simp (disch := (first | assumption | omega | exact Nat.le_of_ble_eq_true rfl | rfl)) only [w55_0, w55_1, w55_4, w55_7, w55_8, w55_11, w55_12, w55_13, w55_16, w55_17, w55_18, w55_21, w55_22, w55_23, w55_24, w55_27, w55_30, w55_31, w55_32, w55_35, w55_36, w55_37, w55_38, w55_39, w55_42, w55_45, w55_46, w55_47, w55_50, w55_51, w55_52, w55_55, w55_58, w55_59, w55_60, w55_63, w55_66, w55_67, w55_68, w55_69, w55_70, w55_71, w55_72, w55_75, w55_78, w55_79, w55_80, w55_81, w55_84, w55_85, w55_86, w55_89, w55_90, w55_91, w55_94, w55_95, w55_97, w55_100, w55_102, w55_103, w55_105, w55_108, w55_111, w55_112, w55_113, w55_116, w55_119, w55_122, w55_123, w55_125, w55_126, w55_129, w55_132, w55_133, w55_136, w55_139, w55_140, w55_143, w55_146, w55_147, w55_148, w55_149, w55_152, w55_155, w55_156, w55_159, w55_162, w55_164, w55_165, w55_166, w55_169, w55_171, w55_174, Ko_n, Ko_v, vX_i, vX_r, vX_l, vX_j, reduceIte]
              have hF := Dc_wk (z := pK s 1 * pV X.2 + X.1) (a := a.1) (b := b) (t := stK2 (wkS (pK a.2) (pK s 3) (pK s 1 * pV X.2 + X.1) a.1) a.2) hDx he ht (by omega) (by rw [← g5]; rfl)
              exact hQ _ (Rc_o g1 (fun t => wkF_o (by omega) (by omega)) (wkF_o (by omega) (by omega))) hF (fun t o a b c dd => by rw [show plW (upA (upA χ 702 84 (fu (χ 702 84) (pK s 3) (pK s 1 * pV X.2 + X.1))) 703 84 (fu (χ 703 84) (pK s 3) _)) 77 _ t o = χ t o from wkF_o b dd]; exact g2 t o a)
            · simp (disch := (first | assumption | omega | exact Nat.le_of_ble_eq_true rfl | rfl)) only [w55_0, w55_1, w55_4, w55_7, w55_8, w55_11, w55_12, w55_13, w55_16, w55_17, w55_18, w55_21, w55_22, w55_23, w55_24, w55_27, w55_30, w55_31, w55_32, w55_35, w55_36, w55_37, w55_38, w55_39, w55_42, w55_45, w55_46, w55_47, w55_50, w55_51, w55_52, w55_55, w55_58, w55_59, w55_60, w55_63, w55_66, w55_67, w55_68, w55_69, w55_70, w55_71, w55_72, w55_75, w55_78, w55_79, w55_80, w55_81, w55_84, w55_85, w55_86, w55_89, w55_90, w55_91, w55_94, w55_95, w55_97, w55_100, w55_102, w55_103, w55_105, w55_108, w55_111, w55_112, w55_113, w55_116, w55_119, w55_122, w55_123, w55_125, w55_126, w55_129, w55_132, w55_133, w55_136, w55_139, w55_140, w55_143, w55_146, w55_147, w55_148, w55_149, w55_152, w55_155, w55_156, w55_159, w55_162, w55_164, w55_165, w55_166, w55_169, w55_171, w55_174, Ko_n, Ko_v, vX_i, vX_r, vX_l, vX_j, reduceIte, g1.2.2.2.2.2.1, e8, not_false_eq_true]
              have q : ∀ K, flt (if pB a.2 = 0 then stK2 K a.2 else a.2) ≠ 0 := by
                intro K
                split
                · exact e8
                · exact e8
              have q2 : ∀ K, Rc f n χ (if pB a.2 = 0 then stK2 K a.2 else a.2) := by
                intro K
                split
                · exact g1
                · exact g1
              exact hQ χ (q2 _) (Dc_f (Dc_R hD g2 (fun z => z) rfl) (q _)) (fR_W g2)
          simp (disch := (first | assumption | omega | exact Nat.le_of_ble_eq_true rfl | rfl)) only [w55_102, w55_103, w55_105, w55_108, w55_111, w55_112, w55_113, w55_116, w55_119, w55_122, w55_123, Ko_n, Ko_v, vX_i, vX_r, vX_l, vX_j, reduceIte]
          refine c44 (i := 9) rfl g1 hf g3 (by omega) (fun wd υ k1 k2 => ?_) (fun wd => ?_)
          · rw [if_pos wd] at hQ
            have r3 := Mv_rd hf g3
            have m3 := Mv_nm (lo := 0) (hi := 999) hf r3.1
            simp (disch := (first | assumption | omega | exact Nat.le_of_ble_eq_true rfl | rfl)) only [w55_102, w55_103, w55_105, w55_108, w55_111, w55_112, w55_113, w55_116, w55_119, w55_122, w55_123, Ko_n, Ko_v, vX_i, vX_r, vX_l, vX_j, reduceIte, Int.reduceEq]
            refine c48 k1 hf r3.1 (by omega) (by omega) (by omega) (by omega) fun υ2 v k3 k4 k5 k6 => ?_
            simp (disch := (first | assumption | omega | exact Nat.le_of_ble_eq_true rfl | rfl)) only [w55_102, w55_103, w55_105, w55_108, w55_111, w55_112, w55_113, w55_116, w55_119, w55_122, w55_123, Ko_n, Ko_v, vX_i, vX_r, vX_l, vX_j, reduceIte]
            exact fin υ2 _ v k3 (fR_t g2 (fR_t k2 k4)) m3.1 k6 (by rw [m3.2.1, r3.2.1]; exact g4) hQ
          · rw [wd, if_neg Bool.false_ne_true] at hQ
            simp (disch := (first | assumption | omega | exact Nat.le_of_ble_eq_true rfl | rfl)) only [w55_102, w55_103, w55_105, w55_108, w55_111, w55_112, w55_113, w55_116, w55_119, w55_122, w55_123, Ko_n, Ko_v, vX_i, vX_r, vX_l, vX_j, reduceIte]
            exact fin χ (0, s3) 0 g1 g2 g3 (fun _ => rfl) g4 hQ
        unfold wkE at hQ
        dsimp only at hQ
        simp (disch := (first | assumption | omega | exact Nat.le_of_ble_eq_true rfl | rfl)) only [w55_90, w55_91, w55_94, w55_95, w55_97, w55_100, Ko_n, Ko_v, vX_i, vX_r, vX_l, vX_j, reduceIte]
        refine c44 (i := 8) rfl h9 hf ry.1 (by omega) (fun wd υ k1 k2 => ?_) (fun wd => ?_)
        · rw [if_pos wd] at hQ
          simp (disch := (first | assumption | omega | exact Nat.le_of_ble_eq_true rfl | rfl)) only [w55_90, w55_91, w55_94, w55_95, w55_97, w55_100, Ko_n, Ko_v, vX_i, vX_r, vX_l, vX_j, reduceIte]
          exact tail true υ (stK2 (fu (pK s) 92 (oo (pK s 92) (sl 1 (pK s 3)))) (rdOn f n Y)) k1 (fR_t fr2 k2) (rdOn_O hf ry.1).1 rfl hQ
        · rw [wd, if_neg Bool.false_ne_true] at hQ
          simp (disch := (first | assumption | omega | exact Nat.le_of_ble_eq_true rfl | rfl)) only [w55_90, w55_91, w55_94, w55_95, w55_97, w55_100, Ko_n, Ko_v, vX_i, vX_r, vX_l, vX_j, reduceIte]
          exact tail false χ Y h9 fr2 ry.1 (by rw [ry.2.1, mx.2.1, r.2.1]; rfl) hQ
    · simp (disch := (first | assumption | omega | exact Nat.le_of_ble_eq_true rfl | rfl)) only [w55_0, w55_1, w55_4, w55_7, w55_8, w55_11, w55_12, w55_13, w55_16, w55_17, w55_18, w55_21, w55_22, w55_23, w55_24, w55_27, w55_30, w55_31, w55_32, w55_35, w55_36, w55_37, w55_38, w55_39, w55_42, w55_45, w55_46, w55_47, w55_50, w55_51, w55_52, w55_55, w55_58, w55_59, w55_60, w55_63, w55_66, w55_67, w55_68, w55_69, w55_70, w55_71, w55_72, w55_75, w55_78, w55_79, w55_80, w55_81, w55_84, w55_85, w55_86, w55_89, w55_90, w55_91, w55_94, w55_95, w55_97, w55_100, w55_102, w55_103, w55_105, w55_108, w55_111, w55_112, w55_113, w55_116, w55_119, w55_122, w55_123, w55_125, w55_126, w55_129, w55_132, w55_133, w55_136, w55_139, w55_140, w55_143, w55_146, w55_147, w55_148, w55_149, w55_152, w55_155, w55_156, w55_159, w55_162, w55_164, w55_165, w55_166, w55_169, w55_171, w55_174, Ko_n, Ko_v, vX_i, vX_r, vX_l, vX_j, reduceIte, h7.2.2.2.2.2.1, e6]
      have key : flt (nmb f n 0 (pK s 2 - 1) (if pB X.2 = 0 ∧ pT X.2 = 2 ∧ pV X.2 < pK s 2 ∧ pK s (7 + pK s 1 * pV X.2 + X.1) = 4 then blm 3 X.2 else X.2)).2 = flt (lkN 0 (pK s 2 - 1) X.2) ∧ fpl (nmb f n 0 (pK s 2 - 1) (if pB X.2 = 0 ∧ pT X.2 = 2 ∧ pV X.2 < pK s 2 ∧ pK s (7 + pK s 1 * pV X.2 + X.1) = 4 then blm 3 X.2 else X.2)).2 = fpl (lkN 0 (pK s 2 - 1) X.2) := by
        have hv := mx.1.2.2.2.1
        have hno : ¬ (pB X.2 = 0 ∧ pT X.2 = 2 ∧ pV X.2 < pK s 2 ∧ pK s (7 + pK s 1 * pV X.2 + X.1) = 4) := by
          intro w
          apply e6
          have : lkN 0 (pK s 2 - 1) X.2 = X.2 := by unfold lkN; rw [if_pos w.2.1, if_pos (by omega)]
          rw [this]
          exact (flt_b w.1 (by omega)).1
        rw [if_neg hno]
        have hbn : pB (lkN 0 (pK s 2 - 1) X.2) ≠ 0 := fun w => e6 ((lkN_f mx.1).mpr w)
        show flt (rdO f n (lkN 0 (pK s 2 - 1) X.2)) = _ ∧ fpl (rdO f n (lkN 0 (pK s 2 - 1) X.2)) = _
        rw [rdO_b hbn]
        exact ⟨rfl, rfl⟩
      have z3 := wkE_f (f := f) (n := n) (x := X.1) (s := s) (y := nmb f n 0 (pK s 2 - 1) (if pB X.2 = 0 ∧ pT X.2 = 2 ∧ pV X.2 < pK s 2 ∧ pK s (7 + pK s 1 * pV X.2 + X.1) = 4 then blm 3 X.2 else X.2)) (by rw [key.1]; exact e6)
      exact hQ ω (Rc_f h7 e6 (by rw [z3.1, key.1]) (by rw [z3.2, key.2])) (Dc_f (Dc_R hD fr (fun z => z) rfl) (by rw [z3.1, key.1]; exact e6)) (fR_W fr)
