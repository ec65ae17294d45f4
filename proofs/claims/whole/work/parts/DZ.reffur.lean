/-! ===== the reference: laysFurther ===== -/
theorem fuJ_s {W H X k e : Int} {c f F : Int → Int} (h : wh2 W H) (hc : csIn c (W * H)) (hf : smF f (W * H) X) (X1 : X ≤ 100000) (k0 : 0 ≤ k) (k1 : k < W * H) (e0 : 0 ≤ e) (e1 : e < 4) (hn : bsC W H k e ≠ -1) (hcb : c (bsC W H k e) ≠ -1) (hk : f k < far) (hJ : fuJ W H c f F k e) : fuJ W H c f (fu F (bsC W H k e) (min (F (bsC W H k e)) (f k + c (bsC W H k e)))) k (e + 1) := by
  have hm := wh_mul h
  have hfar : far = 1000000000 := rfl
  have hhi : hiR = 536870912 := rfl
  have r := rd_in e0 e1
  have hi := nb_in h k0 k1 (d := rdD e) hn
  have hi1 : 0 ≤ bsC W H k e ∧ bsC W H k e < W * H := ⟨hi.1, hi.2.1⟩
  have sy : nbC W H (bsC W H k e) (3 - rdD e) = k := nb_sym h k0 k1 r.1 r.2 hn
  intro z z0 z1
  have j := hJ z z0 z1
  by_cases ez : z = bsC W H k e
  · have s := stp_sm h hc hf X1 z z0 z1
    have fk := hf k k0 k1
    have cz := hc z z0 z1
    rw [← ez] at hcb sy ⊢
    rw [fu_s]
    have lo : stp W H c f z ≤ f k + c z := by
      unfold stp
      rw [if_neg hcb]
      have u := (lfb_up (W := W) (H := H) (z := z) (pr := c z) (v := f z) (g := f) 4).2 (3 - rdD e).toNat (by omega) (by rw [show (((3 - rdD e).toNat : Nat) : Int) = 3 - rdD e by omega, sy]; omega)
      rw [show (((3 - rdD e).toNat : Nat) : Int) = 3 - rdD e by omega, sy] at u
      exact u
    have lr : rf (stp W H c f z) ≤ f k + c z := by
      rw [show rf (stp W H c f z) = stp W H c f z from if_pos (by omega)]
      exact lo
    refine ⟨by omega, fun k' e' a1 a2 a3 a4 a5 a6 a7 a8 => ?_⟩
    by_cases q : k' = k ∧ e' = e
    · rw [q.1]; omega
    · have := j.2 k' e' a1 a2 a3 a4 (by omega) a6 a7 a8
      omega
  · rw [fu_n ez]
    refine ⟨j.1, fun k' e' a1 a2 a3 a4 a5 a6 a7 a8 => ?_⟩
    by_cases q : k' = k ∧ e' = e
    · rw [q.1, q.2] at a6; exact absurd a6.symm ez
    · exact j.2 k' e' a1 a2 a3 a4 (by omega) a6 a7 a8
theorem fuJ_k {W H k e : Int} {c f F : Int → Int} (hs : bsC W H k e = -1 ∨ c (bsC W H k e) = -1) (hJ : fuJ W H c f F k e) : fuJ W H c f F k (e + 1) := fun z z0 z1 => by
  have j := hJ z z0 z1
  refine ⟨j.1, fun k' e' a1 a2 a3 a4 a5 a6 a7 a8 => ?_⟩
  by_cases q : k' = k ∧ e' = e
  · rw [q.1, q.2] at a6
    rcases hs with hs | hs
    · omega
    · rw [a6] at hs; exact absurd hs a7
  · exact j.2 k' e' a1 a2 a3 a4 (by omega) a6 a7 a8
theorem fuJ_n {W H k e : Int} {c f F : Int → Int} (hs : e = 4 ∨ ¬ f k < far) (hJ : fuJ W H c f F k e) : fuJ W H c f F (k + 1) 0 := fun z z0 z1 => by
  have j := hJ z z0 z1
  refine ⟨j.1, fun k' e' a1 a2 a3 a4 a5 a6 a7 a8 => ?_⟩
  by_cases q : k' = k
  · rcases hs with hs | hs
    · exact j.2 k' e' a1 a2 a3 a4 (by omega) a6 a7 a8
    · rw [q] at a8; exact absurd a8 hs
  · exact j.2 k' e' a1 a2 a3 a4 (by omega) a6 a7 a8
theorem c263 {d : Nat} {k X : Int} {K c f : Int → Int} {T : Tt} {σ : St} {Q : vmO → vmH → Prop} (hK : σ 1200 382 = K) (h : wh2 (K 1) (K 2)) (hc : csIn c (K 1 * K 2)) (hP : ∀ z, 0 ≤ z → z < K 1 * K 2 → σ 1219 382 z = rp (c z)) (hf : smF f (K 1 * K 2) X) (X0 : 0 ≤ X) (X1 : X ≤ 100000) (hD : ∀ z, 0 ≤ z → z < K 1 * K 2 → σ 1220 382 z = rf (f z))
    (hQ : ∀ F G, (∀ z, 0 ≤ z → z < K 1 * K 2 → G z = rf (stp (K 1) (K 2) c f z)) → Q (.inl none) (E T (upA (upA σ 1226 382 F) 1220 382 G))) : Ca (d + 2) k 263 [.ref 382] (E T σ) Q := by
  have h0 := ob_md
  have hm := wh_mul h
  have hfar : far = 1000000000 := rfl
  have hhi : hiR = 536870912 := rfl
  obtain ⟨N, hN⟩ : ∃ N : Nat, (N : Int) = K 1 * K 2 := ⟨(K 1 * K 2).toNat, by omega⟩
  have fr : ∀ z, 0 ≤ z → z < K 1 * K 2 → (0 ≤ f z ∧ f z ≤ X ∧ rf (f z) = f z) ∨ (f z = far ∧ rf (f z) = hiR) := fun z z0 z1 => by
    rcases hf z z0 z1 with a | a
    · exact Or.inl ⟨a.1, a.2, if_pos (by omega)⟩
    · exact Or.inr ⟨a, if_neg (by omega)⟩
  rw [n263 _ _ _ _ _ _ h0]
  have back : ∀ (m n : Nat) (F G : Int → Int) (l2 l3 : Value), n + m = N → (∀ z, 0 ≤ z → z < K 1 * K 2 → F z = rf (stp (K 1) (K 2) c f z)) → (∀ z : Int, 0 ≤ z → z < n → G z = rf (stp (K 1) (K 2) c f z)) → Wp (d + 2) M_X12_laysFurther 123 [.ref 382, .int (i32 n), l2, l3] [] (E T (upA (upA σ 1226 382 F) 1220 382 G)) Q := by
    intro m
    induction m with
    | zero =>
      intro n F G l2 l3 hn hF hG
      have hn : n = N := by omega
      subst hn
      have kU : (upA (upA σ 1226 382 F) 1220 382 G) 1200 382 = K := by rw [upA_t (by omega), upA_t (by omega)]; exact hK
      rw [w263_123]
      simp (disch := (first | assumption | omega | exact Nat.le_of_ble_eq_true rfl | rfl)) only [w263_124, w263_125, Ko_n, Ko_v, vX_i, vX_r, vX_l, vX_j, reduceIte]
      rw [c210 kU]
      simp (disch := (first | assumption | omega | exact Nat.le_of_ble_eq_true rfl | rfl)) only [w263_128, w263_131, w263_132, w263_135, w263_136, w263_137, w263_140, w263_141, w263_142, w263_143, w263_146, w263_149, Ko_n, Ko_v, vX_i, vX_r, vX_l, vX_j, reduceIte, hN, Int.le_refl]
      exact hQ F G (fun z z0 z1 => hG z z0 (by omega))
    | succ m ih =>
      intro n F G l2 l3 hn hF hG
      have kU : (upA (upA σ 1226 382 F) 1220 382 G) 1200 382 = K := by rw [upA_t (by omega), upA_t (by omega)]; exact hK
      rw [w263_123]
      simp (disch := (first | assumption | omega | exact Nat.le_of_ble_eq_true rfl | rfl)) only [w263_124, w263_125, Ko_n, Ko_v, vX_i, vX_r, vX_l, vX_j, reduceIte]
      rw [c210 kU]
      simp (disch := (first | assumption | omega | exact Nat.le_of_ble_eq_true rfl | rfl)) only [w263_128, w263_131, w263_132, w263_135, w263_136, w263_137, w263_140, w263_141, w263_142, w263_143, w263_146, Ko_n, Ko_v, vX_i, vX_r, vX_l, vX_j, reduceIte, show ¬ K 1 * K 2 ≤ (n : Int) by omega, upA_t, upA_s, upA_upA]
      refine ih (n + 1) F _ _ _ (by omega) hF (fun z z0 z1 => ?_)
      by_cases ez : z = n
      · rw [ez, fu_s]; exact hF n (by omega) (by omega)
      · rw [fu_n ez]; exact hG z z0 (by omega)
  have back0 : ∀ (F : Int → Int) (l2 l3 : Value), (∀ z, 0 ≤ z → z < K 1 * K 2 → F z = rf (stp (K 1) (K 2) c f z)) → Wp (d + 2) M_X12_laysFurther 123 [.ref 382, .int (i32 0), l2, l3] [] (E T (upA σ 1226 382 F)) Q := by
    intro F l2 l3 hF
    have b := back N 0 F (σ 1220 382) l2 l3 (by omega) hF (fun z z0 z1 => by omega)
    have e : upA (upA σ 1226 382 F) 1220 382 (σ 1220 382) = upA σ 1226 382 F := by
      have e1 : σ 1220 382 = (upA σ 1226 382 F) 1220 382 := by rw [upA_t (by omega)]
      rw [e1, upA_self]
    rw [e] at b
    exact b
  have kF : ∀ F, (upA σ 1226 382 F) 1200 382 = K := fun F => by rw [upA_t (by omega)]; exact hK
  have sides : ∀ (m e : Nat) (n : Nat) (F : Int → Int) (l3 : Value), e + m = 4 → (n : Int) < K 1 * K 2 → fuJ (K 1) (K 2) c f F n e → (∀ F' l2' l3', fuJ (K 1) (K 2) c f F' (n + 1) 0 → Wp (d + 2) M_X12_laysFurther 115 [.ref 382, .int (i32 n), .int (i32 l2'), l3'] [] (E T (upA σ 1226 382 F')) Q) → Wp (d + 2) M_X12_laysFurther 40 [.ref 382, .int (i32 n), .int (i32 e), l3] [] (E T (upA σ 1226 382 F)) Q := by
    intro m
    induction m with
    | zero =>
      intro e n F l3 he n1 hJ hG
      have he : e = 4 := by omega
      subst he
      rw [w263_40]
      simp (disch := (first | assumption | omega | exact Nat.le_of_ble_eq_true rfl | rfl)) only [w263_41, w263_42, w263_45, w263_46, w263_49, w263_50, w263_51, w263_54, w263_57, w263_58, w263_59, w263_60, w263_63, w263_64, w263_65, w263_66, w263_69, w263_70, w263_73, w263_74, w263_75, w263_78, w263_81, w263_82, w263_85, w263_86, w263_87, w263_90, w263_91, w263_92, w263_93, w263_96, w263_97, w263_98, w263_99, w263_102, w263_103, w263_104, w263_105, w263_108, w263_109, w263_112, Ko_n, Ko_v, vX_i, vX_r, vX_l, vX_j, reduceIte, show (4 : Int) ≤ ((4 : Nat) : Int) by omega]
      exact hG F 4 _ (fuJ_n (Or.inl rfl) hJ)
    | succ m ih =>
      intro e n F l3 he n1 hJ hG
      have fn := fr n (by omega) n1
      have dn := hD n (by omega) n1
      rw [w263_40]
      by_cases e1 : f n < far
      · have dn2 : σ 1220 382 n = f n := by rw [dn]; omega
        simp (disch := (first | assumption | omega | exact Nat.le_of_ble_eq_true rfl | rfl)) only [w263_41, w263_42, w263_45, w263_46, w263_49, w263_50, w263_51, w263_54, w263_57, w263_58, w263_59, w263_60, Ko_n, Ko_v, vX_i, vX_r, vX_l, vX_j, reduceIte, show ¬ (4 : Int) ≤ (e : Int) by omega, upA_t, dn2, show ¬ (536870912 : Int) ≤ f n by omega]
        rw [c219 (kF F) h (by omega) n1 (by omega) (by omega)]
        have hb := bsC_in (z := (n : Int)) (e := (e : Int)) h (by omega) n1
        have skip : ∀ l3, (bsC (K 1) (K 2) n e = -1 ∨ c (bsC (K 1) (K 2) n e) = -1) → Wp (d + 2) M_X12_laysFurther 109 [.ref 382, .int (i32 n), .int (i32 e), l3] [] (E T (upA σ 1226 382 F)) Q := by
          intro l3 hs
          simp (disch := (first | assumption | omega | exact Nat.le_of_ble_eq_true rfl | rfl)) only [w263_109, w263_112, Ko_n, Ko_v, vX_i, vX_r, vX_l, vX_j, reduceIte]
          exact ih (e + 1) n F l3 (by omega) n1 (fuJ_k hs hJ) hG
        by_cases e2 : bsC (K 1) (K 2) n e = -1
        · simp (disch := (first | assumption | omega | exact Nat.le_of_ble_eq_true rfl | rfl)) only [w263_63, w263_64, w263_65, w263_66, w263_69, w263_70, w263_73, w263_74, w263_75, w263_78, w263_81, w263_82, w263_85, w263_86, w263_87, w263_90, w263_91, w263_92, w263_93, w263_96, w263_97, w263_98, w263_99, w263_102, w263_103, w263_104, w263_105, w263_108, Ko_n, Ko_v, vX_i, vX_r, vX_l, vX_j, reduceIte, e2]
          exact skip _ (Or.inl e2)
        · have b0 : 0 ≤ bsC (K 1) (K 2) n e ∧ bsC (K 1) (K 2) n e < K 1 * K 2 := by omega
          have pb := hP _ b0.1 b0.2
          have cb := hc _ b0.1 b0.2
          have jb := hJ _ b0.1 b0.2
          have rb := fr _ b0.1 b0.2
          have sb := (stp_sm h hc hf X1 _ b0.1 b0.2).1
          by_cases e3 : c (bsC (K 1) (K 2) n e) = -1
          · have pb2 : σ 1219 382 (bsC (K 1) (K 2) n e) = 536870912 := by rw [pb]; unfold rp; rw [if_pos e3]; rfl
            simp (disch := (first | assumption | omega | exact Nat.le_of_ble_eq_true rfl | rfl)) only [w263_63, w263_64, w263_65, w263_66, w263_69, w263_70, w263_73, w263_74, w263_75, w263_78, w263_81, w263_82, w263_85, w263_86, w263_87, w263_90, w263_91, w263_92, w263_93, w263_96, w263_97, w263_98, w263_99, w263_102, w263_103, w263_104, w263_105, w263_108, Ko_n, Ko_v, vX_i, vX_r, vX_l, vX_j, reduceIte, e2, upA_t, pb2, Int.le_refl]
            exact skip _ (Or.inr e3)
          · have pb2 : σ 1219 382 (bsC (K 1) (K 2) n e) = c (bsC (K 1) (K 2) n e) := by rw [pb]; unfold rp; rw [if_neg e3]
            have Fb : 0 ≤ F (bsC (K 1) (K 2) n e) ∧ F (bsC (K 1) (K 2) n e) ≤ hiR := by
              have r0 : 0 ≤ rf (stp (K 1) (K 2) c f (bsC (K 1) (K 2) n e)) := by unfold rf; split <;> omega
              omega
            have st := fuJ_s h hc hf X1 (show (0 : Int) ≤ (n : Int) by omega) n1 (show (0 : Int) ≤ (e : Int) by omega) (by omega) e2 e3 e1 hJ
            simp (disch := (first | assumption | omega | exact Nat.le_of_ble_eq_true rfl | rfl)) only [w263_63, w263_64, w263_65, w263_66, w263_69, w263_70, w263_73, w263_74, w263_75, w263_78, w263_81, w263_82, w263_85, w263_86, w263_87, w263_90, w263_91, w263_92, w263_93, w263_96, w263_97, w263_98, w263_99, w263_102, w263_103, w263_104, w263_105, w263_108, w263_109, w263_112, Ko_n, Ko_v, vX_i, vX_r, vX_l, vX_j, reduceIte, e2, upA_t, upA_s, upA_upA, pb2, dn2, show ¬ (536870912 : Int) ≤ c (bsC (K 1) (K 2) n e) by omega, vmCat]
            exact ih (e + 1) n _ _ (by omega) n1 st hG
      · have dn2 : σ 1220 382 n = 536870912 := by rw [dn]; omega
        simp (disch := (first | assumption | omega | exact Nat.le_of_ble_eq_true rfl | rfl)) only [w263_41, w263_42, w263_45, w263_46, w263_49, w263_50, w263_51, w263_54, w263_57, w263_58, w263_59, w263_60, w263_63, w263_64, w263_65, w263_66, w263_69, w263_70, w263_73, w263_74, w263_75, w263_78, w263_81, w263_82, w263_85, w263_86, w263_87, w263_90, w263_91, w263_92, w263_93, w263_96, w263_97, w263_98, w263_99, w263_102, w263_103, w263_104, w263_105, w263_108, w263_109, w263_112, Ko_n, Ko_v, vX_i, vX_r, vX_l, vX_j, reduceIte, show ¬ (4 : Int) ≤ (e : Int) by omega, upA_t, dn2, Int.le_refl]
        exact hG F e _ (fuJ_n (Or.inr e1) hJ)
  have cells : ∀ (m n : Nat) (F : Int → Int) (l2 l3 : Value), n + m = N → fuJ (K 1) (K 2) c f F n 0 → Wp (d + 2) M_X12_laysFurther 30 [.ref 382, .int (i32 n), l2, l3] [] (E T (upA σ 1226 382 F)) Q := by
    intro m
    induction m with
    | zero =>
      intro n F l2 l3 hn hJ
      have hn : n = N := by omega
      subst hn
      rw [hN] at hJ
      rw [w263_30]
      simp (disch := (first | assumption | omega | exact Nat.le_of_ble_eq_true rfl | rfl)) only [w263_31, w263_32, Ko_n, Ko_v, vX_i, vX_r, vX_l, vX_j, reduceIte]
      rw [c210 (kF F)]
      simp (disch := (first | assumption | omega | exact Nat.le_of_ble_eq_true rfl | rfl)) only [w263_35, w263_38, w263_39, w263_41, w263_42, w263_45, w263_46, w263_49, w263_50, w263_51, w263_54, w263_57, w263_58, w263_59, w263_60, w263_63, w263_64, w263_65, w263_66, w263_69, w263_70, w263_73, w263_74, w263_75, w263_78, w263_81, w263_82, w263_85, w263_86, w263_87, w263_90, w263_91, w263_92, w263_93, w263_96, w263_97, w263_98, w263_99, w263_102, w263_103, w263_104, w263_105, w263_108, w263_109, w263_112, w263_115, w263_118, w263_121, w263_122, Ko_n, Ko_v, vX_i, vX_r, vX_l, vX_j, reduceIte, hN, Int.le_refl]
      exact back0 F _ _ (fuJ_end h hc hf X1 hJ)
    | succ m ih =>
      intro n F l2 l3 hn hJ
      rw [w263_30]
      simp (disch := (first | assumption | omega | exact Nat.le_of_ble_eq_true rfl | rfl)) only [w263_31, w263_32, Ko_n, Ko_v, vX_i, vX_r, vX_l, vX_j, reduceIte]
      rw [c210 (kF F)]
      simp (disch := (first | assumption | omega | exact Nat.le_of_ble_eq_true rfl | rfl)) only [w263_35, w263_38, w263_39, Ko_n, Ko_v, vX_i, vX_r, vX_l, vX_j, reduceIte, show ¬ K 1 * K 2 ≤ (n : Int) by omega]
      refine sides 4 0 n F _ (by omega) (by omega) hJ fun F' l2' l3' g => ?_
      simp (disch := (first | assumption | omega | exact Nat.le_of_ble_eq_true rfl | rfl)) only [w263_115, w263_118, Ko_n, Ko_v, vX_i, vX_r, vX_l, vX_j, reduceIte]
      exact ih (n + 1) F' _ _ (by omega) g
  have start : ∀ (m n : Nat) (F : Int → Int), n + m = N → (∀ z : Int, 0 ≤ z → z < n → F z = rf (f z)) → Wp (d + 2) M_X12_laysFurther 2 [.ref 382, .int (i32 n), vmJ, vmJ] [] (E T (upA σ 1226 382 F)) Q := by
    intro m
    induction m with
    | zero =>
      intro n F hn hF
      have hn : n = N := by omega
      subst hn
      rw [w263_2]
      simp (disch := (first | assumption | omega | exact Nat.le_of_ble_eq_true rfl | rfl)) only [w263_3, w263_4, Ko_n, Ko_v, vX_i, vX_r, vX_l, vX_j, reduceIte]
      rw [c210 (kF F)]
      simp (disch := (first | assumption | omega | exact Nat.le_of_ble_eq_true rfl | rfl)) only [w263_7, w263_10, w263_11, w263_14, w263_15, w263_16, w263_19, w263_20, w263_21, w263_22, w263_25, w263_28, w263_29, Ko_n, Ko_v, vX_i, vX_r, vX_l, vX_j, reduceIte, hN, Int.le_refl]
      refine cells n 0 F _ _ (by omega) (fun z z0 z1 => ⟨⟨?_, ?_⟩, fun k' e' a1 a2 a3 a4 a5 => by omega⟩)
      · rw [hF z z0 (by omega)]; exact (stp_sm h hc hf X1 z z0 z1).2.2
      · rw [hF z z0 (by omega)]; exact Int.le_refl _
    | succ m ih =>
      intro n F hn hF
      rw [w263_2]
      simp (disch := (first | assumption | omega | exact Nat.le_of_ble_eq_true rfl | rfl)) only [w263_3, w263_4, Ko_n, Ko_v, vX_i, vX_r, vX_l, vX_j, reduceIte]
      rw [c210 (kF F)]
      simp (disch := (first | assumption | omega | exact Nat.le_of_ble_eq_true rfl | rfl)) only [w263_7, w263_10, w263_11, w263_14, w263_15, w263_16, w263_19, w263_20, w263_21, w263_22, w263_25, Ko_n, Ko_v, vX_i, vX_r, vX_l, vX_j, reduceIte, show ¬ K 1 * K 2 ≤ (n : Int) by omega, upA_t, upA_s, upA_upA]
      refine ih (n + 1) _ (by omega) (fun z z0 z1 => ?_)
      by_cases ez : z = n
      · rw [ez, fu_s]; exact hD n (by omega) (by omega)
      · rw [fu_n ez]; exact hF z z0 (by omega)
  have l0 := start N 0 (σ 1226 382) (by omega) (fun z z0 z1 => by omega)
  rw [upA_self] at l0
  simp (disch := (first | assumption | omega | exact Nat.le_of_ble_eq_true rfl | rfl)) only [w263_0, w263_1, Ko_n, Ko_v, vX_i, vX_r, vX_l, vX_j, reduceIte]
  exact l0
