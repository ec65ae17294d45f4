/-! ===== the reference: laysRest ===== -/
theorem c233 {d N : Nat} {k t : Int} {K c : Int → Int} {T : Tt} {σ : St} {Q : vmO → vmH → Prop} (hK : σ 1200 382 = K) (h : wh2 (K 1) (K 2)) (hN : (N : Int) = K 1 * K 2) (hc : csIn c (K 1 * K 2)) (hP : ∀ z, 0 ≤ z → z < K 1 * K 2 → σ 1219 382 z = rp (c z)) (t0 : 0 ≤ t) (t1 : t < K 1 * K 2)
    (hQ : ∀ R, (∀ z, 0 ≤ z → z < K 1 * K 2 → c z ≠ -1 → R z = rsF c (dD (K 1) (K 2) c t N) t z) → Q (.inl none) (E T (upA σ 1221 382 R))) : Ca (d + 2) k 233 [.ref 382, .int (i32 t)] (E T σ) Q := by
  have h0 := ob_md
  have hm := wh_mul h
  have hfar : far = 1000000000 := rfl
  have hhi : hiR = 536870912 := rfl
  have hct := hc t t0 t1
  rw [n233 _ _ _ _ _ _ _ h0]
  have cK : ∀ D, (upA σ 1221 382 D) 1200 382 = K := fun D => by rw [upA_t (by omega)]; exact hK
  generalize hy : loR c (dD (K 1) (K 2) c t N) t = lo
  -- one cell's sides
  have sides : ∀ (m e : Nat) (D : Int → Int) (k : Int) (mo : Int) (l5 : Value), e + m = 4 → 0 ≤ k → k < K 1 * K 2 → bfI lo D N → (c t ≠ -1 → D t = 0) → (mo = 0 ∨ mo = 1) → (∀ D' mo' l5', bfI lo D' N → (c t ≠ -1 → D' t = 0) → ((mo' = mo ∧ D' = D ∧ ∀ e', (e : Int) ≤ e' → e' < 4 → nlR (K 1) (K 2) c D k e') ∨ (mo' = 1 ∧ smD2 D' N < smD2 D N)) → Wp (d + 2) M_X12_laysRest 174 [.ref 382, .int (i32 t), .int (i32 mo'), .int (i32 k), .int (i32 4), l5'] [] (E T (upA σ 1221 382 D')) Q) → Wp (d + 2) M_X12_laysRest 71 [.ref 382, .int (i32 t), .int (i32 mo), .int (i32 k), .int (i32 e), l5] [] (E T (upA σ 1221 382 D)) Q := by
    intro m
    induction m with
    | zero =>
      intro e D k mo l5 he k0 k1 hI hD hmo hG
      have he : e = 4 := by omega
      subst he
      rw [w233_71]
      simp (disch := (first | assumption | omega | exact Nat.le_of_ble_eq_true rfl | rfl)) only [w233_73, w233_74, w233_77, w233_78, w233_79, w233_81, w233_84, w233_86, w233_88, w233_89, w233_92, w233_93, w233_96, w233_98, w233_99, w233_102, w233_105, w233_106, w233_109, w233_111, w233_112, w233_115, w233_118, w233_119, w233_122, w233_124, w233_125, w233_126, w233_129, w233_131, w233_132, w233_133, w233_134, w233_137, w233_138, w233_139, w233_142, w233_145, w233_146, w233_149, w233_150, w233_151, w233_154, w233_156, w233_157, w233_158, w233_161, w233_163, w233_164, w233_165, w233_166, w233_167, w233_168, w233_171, Ko_n, Ko_v, vX_i, vX_r, vX_l, vX_j, reduceIte, show (4 : Int) ≤ ((4 : Nat) : Int) by omega]
      exact hG D mo l5 hI hD (Or.inl ⟨rfl, rfl, fun e' a b => by omega⟩)
    | succ m ih =>
      intro e D k mo l5 he k0 k1 hI hD hmo hG
      have hb := bsC_in (e := (e : Int)) h k0 k1
      have ik := hI k k0 (by omega)
      rw [w233_71]
      simp (disch := (first | assumption | omega | exact Nat.le_of_ble_eq_true rfl | rfl)) only [w233_73, w233_74, w233_77, w233_78, w233_79, w233_81, Ko_n, Ko_v, vX_i, vX_r, vX_l, vX_j, reduceIte, show ¬ (4 : Int) ≤ (e : Int) by omega]
      rw [c219 (cK D) h k0 k1 (by omega) (by omega)]
      have skip : ∀ l5, nlR (K 1) (K 2) c D k e → Wp (d + 2) M_X12_laysRest 168 [.ref 382, .int (i32 t), .int (i32 mo), .int (i32 k), .int (i32 e), l5] [] (E T (upA σ 1221 382 D)) Q := by
        intro l5 hnl
        simp (disch := (first | assumption | omega | exact Nat.le_of_ble_eq_true rfl | rfl)) only [w233_168, w233_171, Ko_n, Ko_v, vX_i, vX_r, vX_l, vX_j, reduceIte]
        refine ih (e + 1) D k mo l5 (by omega) k0 k1 hI hD hmo fun D' mo' l5' g1 g2 g3 => hG D' mo' l5' g1 g2 ?_
        rcases g3 with g3 | g3
        · refine Or.inl ⟨g3.1, g3.2.1, fun e' a b => ?_⟩
          by_cases ee : e' = e
          · rw [ee]; exact hnl
          · exact g3.2.2 e' (by omega) b
        · exact Or.inr g3
      by_cases e1 : bsC (K 1) (K 2) k e = -1
      · simp (disch := (first | assumption | omega | exact Nat.le_of_ble_eq_true rfl | rfl)) only [w233_84, w233_86, w233_88, w233_89, w233_92, w233_93, w233_96, w233_98, w233_99, w233_102, w233_105, w233_106, w233_109, w233_111, w233_112, w233_115, w233_118, w233_119, w233_122, w233_124, w233_125, w233_126, w233_129, w233_131, w233_132, w233_133, w233_134, w233_137, w233_138, w233_139, w233_142, w233_145, w233_146, w233_149, w233_150, w233_151, w233_154, w233_156, w233_157, w233_158, w233_161, w233_163, w233_164, w233_165, w233_166, w233_167, Ko_n, Ko_v, vX_i, vX_r, vX_l, vX_j, reduceIte, e1]
        exact skip _ (Or.inl e1)
      · have hb1 : 0 ≤ bsC (K 1) (K 2) k e ∧ bsC (K 1) (K 2) k e < K 1 * K 2 := by omega
        have hcs := hc _ hb1.1 hb1.2
        have hPb := hP _ hb1.1 hb1.2
        have ib := hI _ hb1.1 (by omega : bsC (K 1) (K 2) k e < N)
        by_cases e0 : D (bsC (K 1) (K 2) k e) = 536870912
        · simp (disch := (first | assumption | omega | exact Nat.le_of_ble_eq_true rfl | rfl)) only [w233_84, w233_86, w233_88, w233_89, w233_92, w233_93, w233_96, w233_98, w233_99, w233_102, w233_105, w233_106, w233_109, w233_111, w233_112, w233_115, w233_118, w233_119, w233_122, w233_124, w233_125, w233_126, w233_129, w233_131, w233_132, w233_133, w233_134, w233_137, w233_138, w233_139, w233_142, w233_145, w233_146, w233_149, w233_150, w233_151, w233_154, w233_156, w233_157, w233_158, w233_161, w233_163, w233_164, w233_165, w233_166, w233_167, Ko_n, Ko_v, vX_i, vX_r, vX_l, vX_j, reduceIte, e1, upA_s, e0]
          exact skip _ (Or.inr (Or.inl e0))
        · by_cases e2 : c (bsC (K 1) (K 2) k e) = -1
          · have hPb2 : σ 1219 382 (bsC (K 1) (K 2) k e) = 536870912 := by rw [hPb]; unfold rp; rw [if_pos e2]; rfl
            simp (disch := (first | assumption | omega | exact Nat.le_of_ble_eq_true rfl | rfl)) only [w233_84, w233_86, w233_88, w233_89, w233_92, w233_93, w233_96, w233_98, w233_99, w233_102, w233_105, w233_106, w233_109, w233_111, w233_112, w233_115, w233_118, w233_119, w233_122, w233_124, w233_125, w233_126, w233_129, w233_131, w233_132, w233_133, w233_134, w233_137, w233_138, w233_139, w233_142, w233_145, w233_146, w233_149, w233_150, w233_151, w233_154, w233_156, w233_157, w233_158, w233_161, w233_163, w233_164, w233_165, w233_166, w233_167, Ko_n, Ko_v, vX_i, vX_r, vX_l, vX_j, reduceIte, e1, upA_t, upA_s, e0, hPb2]
            exact skip _ (Or.inr (Or.inr (Or.inl e2)))
          · have hPb2 : σ 1219 382 (bsC (K 1) (K 2) k e) = c (bsC (K 1) (K 2) k e) := by rw [hPb]; unfold rp; rw [if_neg e2]
            by_cases e3 : D (bsC (K 1) (K 2) k e) + c (bsC (K 1) (K 2) k e) < D k
            · have st := rs_s (R := D) h hc hN t0 t1 (by rw [hy]; exact hI) k0 k1 (show (0 : Int) ≤ (e : Int) by omega) (by omega) e1 (by omega) e2 e3
              rw [hy] at st
              have hkt : c t ≠ -1 → k ≠ t := fun w w2 => by have q := hD w; rw [← w2] at q; omega
              simp (disch := (first | assumption | omega | exact Nat.le_of_ble_eq_true rfl | rfl)) only [w233_84, w233_86, w233_88, w233_89, w233_92, w233_93, w233_96, w233_98, w233_99, w233_102, w233_105, w233_106, w233_109, w233_111, w233_112, w233_115, w233_118, w233_119, w233_122, w233_124, w233_125, w233_126, w233_129, w233_131, w233_132, w233_133, w233_134, w233_137, w233_138, w233_139, w233_142, w233_145, w233_146, w233_149, w233_150, w233_151, w233_154, w233_156, w233_157, w233_158, w233_161, w233_163, w233_164, w233_165, w233_166, w233_167, w233_168, w233_171, Ko_n, Ko_v, vX_i, vX_r, vX_l, vX_j, reduceIte, e1, upA_t, upA_s, e0, hPb2, show ¬ c (bsC (K 1) (K 2) k e) = 536870912 by omega, e3, upA_upA]
              refine ih (e + 1) _ k 1 _ (by omega) k0 k1 st.1 (fun w => by rw [fu_n (fun w2 => hkt w w2.symm)]; exact hD w) (Or.inr rfl) fun D' mo' l5' g1 g2 g3 => hG D' mo' l5' g1 g2 (Or.inr ?_)
              have s2 := st.2
              rcases g3 with g3 | g3
              · exact ⟨g3.1, by rw [g3.2.1]; exact s2⟩
              · exact ⟨g3.1, by have := g3.2; omega⟩
            · simp (disch := (first | assumption | omega | exact Nat.le_of_ble_eq_true rfl | rfl)) only [w233_84, w233_86, w233_88, w233_89, w233_92, w233_93, w233_96, w233_98, w233_99, w233_102, w233_105, w233_106, w233_109, w233_111, w233_112, w233_115, w233_118, w233_119, w233_122, w233_124, w233_125, w233_126, w233_129, w233_131, w233_132, w233_133, w233_134, w233_137, w233_138, w233_139, w233_142, w233_145, w233_146, w233_149, w233_150, w233_151, w233_154, w233_156, w233_157, w233_158, w233_161, w233_163, w233_164, w233_165, w233_166, w233_167, Ko_n, Ko_v, vX_i, vX_r, vX_l, vX_j, reduceIte, e1, upA_t, upA_s, e0, hPb2, show ¬ c (bsC (K 1) (K 2) k e) = 536870912 by omega, e3]
              exact skip _ (Or.inr (Or.inr (Or.inr (by omega))))
  -- all cells once
  have pass : ∀ (m n : Nat) (D0 D : Int → Int) (mo : Int) (l4 l5 : Value), (n : Int) + m = K 1 * K 2 → bfI lo D N → (c t ≠ -1 → D t = 0) → ((mo = 0 ∧ D = D0 ∧ ∀ k e : Int, 0 ≤ k → k < n → 0 ≤ e → e < 4 → nlR (K 1) (K 2) c D0 k e) ∨ (mo = 1 ∧ smD2 D N < smD2 D0 N)) → (∀ D' mo' l3' l4' l5', bfI lo D' N → (c t ≠ -1 → D' t = 0) → ((mo' = 0 ∧ D' = D0 ∧ ∀ k e : Int, 0 ≤ k → k < K 1 * K 2 → 0 ≤ e → e < 4 → nlR (K 1) (K 2) c D0 k e) ∨ (mo' = 1 ∧ smD2 D' N < smD2 D0 N)) → Wp (d + 2) M_X12_laysRest 52 [.ref 382, .int (i32 t), .int (i32 mo'), l3', l4', l5'] [] (E T (upA σ 1221 382 D')) Q) → Wp (d + 2) M_X12_laysRest 60 [.ref 382, .int (i32 t), .int (i32 mo), .int (i32 n), l4, l5] [] (E T (upA σ 1221 382 D)) Q := by
    intro m
    induction m with
    | zero =>
      intro n D0 D mo l4 l5 hn hI hD hs hG
      have hn' : (n : Int) = K 1 * K 2 := by omega
      rw [w233_60]
      simp (disch := (first | assumption | omega | exact Nat.le_of_ble_eq_true rfl | rfl)) only [w233_61, w233_62, Ko_n, Ko_v, vX_i, vX_r, vX_l, vX_j, reduceIte]
      rw [c210 (cK D)]
      simp (disch := (first | assumption | omega | exact Nat.le_of_ble_eq_true rfl | rfl)) only [w233_65, w233_68, w233_69, w233_73, w233_74, w233_77, w233_78, w233_79, w233_81, w233_84, w233_86, w233_88, w233_89, w233_92, w233_93, w233_96, w233_98, w233_99, w233_102, w233_105, w233_106, w233_109, w233_111, w233_112, w233_115, w233_118, w233_119, w233_122, w233_124, w233_125, w233_126, w233_129, w233_131, w233_132, w233_133, w233_134, w233_137, w233_138, w233_139, w233_142, w233_145, w233_146, w233_149, w233_150, w233_151, w233_154, w233_156, w233_157, w233_158, w233_161, w233_163, w233_164, w233_165, w233_166, w233_167, w233_168, w233_171, w233_174, w233_177, w233_180, w233_183, Ko_n, Ko_v, vX_i, vX_r, vX_l, vX_j, reduceIte, hn', Int.le_refl]
      refine hG D mo _ _ _ hI hD ?_
      rcases hs with hs | hs
      · exact Or.inl ⟨hs.1, hs.2.1, fun k e a b => hs.2.2 k e a (by omega)⟩
      · exact Or.inr hs
    | succ m ih =>
      intro n D0 D mo l4 l5 hn hI hD hs hG
      have hmo : mo = 0 ∨ mo = 1 := by rcases hs with hs | hs; exact Or.inl hs.1; exact Or.inr hs.1
      rw [w233_60]
      simp (disch := (first | assumption | omega | exact Nat.le_of_ble_eq_true rfl | rfl)) only [w233_61, w233_62, Ko_n, Ko_v, vX_i, vX_r, vX_l, vX_j, reduceIte]
      rw [c210 (cK D)]
      simp (disch := (first | assumption | omega | exact Nat.le_of_ble_eq_true rfl | rfl)) only [w233_65, w233_68, w233_69, Ko_n, Ko_v, vX_i, vX_r, vX_l, vX_j, reduceIte, show ¬ K 1 * K 2 ≤ (n : Int) by omega]
      refine sides 4 0 D n mo _ (by omega) (by omega) (by omega) hI hD hmo fun D' mo' l5' g1 g2 g3 => ?_
      simp (disch := (first | assumption | omega | exact Nat.le_of_ble_eq_true rfl | rfl)) only [w233_174, w233_177, Ko_n, Ko_v, vX_i, vX_r, vX_l, vX_j, reduceIte]
      refine ih (n + 1) D0 D' mo' _ l5' (by omega) g1 g2 ?_ hG
      rcases g3 with g3 | g3
      · rcases hs with hs | hs
        · refine Or.inl ⟨by rw [g3.1]; exact hs.1, by rw [g3.2.1]; exact hs.2.1, fun k e a b x y => ?_⟩
          by_cases ek : k = n
          · rw [ek]; have := g3.2.2 e x y; rw [hs.2.1] at this; exact this
          · exact hs.2.2 k e a (by omega) x y
        · exact Or.inr ⟨by rw [g3.1]; exact hs.1, by rw [g3.2.1]; exact hs.2⟩
      · refine Or.inr ⟨g3.1, ?_⟩
        rcases hs with hs | hs
        · rw [← hs.2.1]; exact g3.2
        · have := hs.2; have := g3.2; omega
  have done : ∀ D, bfI lo D N → (c t ≠ -1 → D t = 0) → (∀ k e : Int, 0 ≤ k → k < K 1 * K 2 → 0 ≤ e → e < 4 → nlR (K 1) (K 2) c D k e) → Q (.inl none) (E T (upA σ 1221 382 D)) := fun D hI hD hE => hQ D (rs_end h hc hN t0 t1 (by rw [hy]; exact hI) hD hE)
  -- until nothing is left
  have outer : ∀ (q : Nat) (D : Int → Int) (l3 l4 l5 : Value), smD2 D N ≤ q → bfI lo D N → (c t ≠ -1 → D t = 0) → Wp (d + 2) M_X12_laysRest 52 [.ref 382, .int (i32 t), .int (i32 1), l3, l4, l5] [] (E T (upA σ 1221 382 D)) Q := by
    intro q
    induction q with
    | zero =>
      intro D l3 l4 l5 hq hI hD
      rw [w233_52]
      simp (disch := (first | assumption | omega | exact Nat.le_of_ble_eq_true rfl | rfl)) only [w233_53, w233_56, w233_57, w233_58, w233_59, Ko_n, Ko_v, vX_i, vX_r, vX_l, vX_j, reduceIte, Int.reduceEq]
      refine pass (K 1 * K 2).toNat 0 D D 0 _ _ (by omega) hI hD (Or.inl ⟨rfl, rfl, fun k e a b => by omega⟩) fun D' mo' l3' l4' l5' g1 g2 g3 => ?_
      rcases g3 with g3 | g3
      · rw [g3.1, g3.2.1, w233_52]
        simp (disch := (first | assumption | omega | exact Nat.le_of_ble_eq_true rfl | rfl)) only [w233_53, w233_56, w233_57, w233_58, w233_59, w233_61, w233_62, w233_65, w233_68, w233_69, w233_73, w233_74, w233_77, w233_78, w233_79, w233_81, w233_84, w233_86, w233_88, w233_89, w233_92, w233_93, w233_96, w233_98, w233_99, w233_102, w233_105, w233_106, w233_109, w233_111, w233_112, w233_115, w233_118, w233_119, w233_122, w233_124, w233_125, w233_126, w233_129, w233_131, w233_132, w233_133, w233_134, w233_137, w233_138, w233_139, w233_142, w233_145, w233_146, w233_149, w233_150, w233_151, w233_154, w233_156, w233_157, w233_158, w233_161, w233_163, w233_164, w233_165, w233_166, w233_167, w233_168, w233_171, w233_174, w233_177, w233_180, w233_183, Ko_n, Ko_v, vX_i, vX_r, vX_l, vX_j, reduceIte]
        exact done D hI hD g3.2.2
      · exfalso
        have := smD2_nn (D := D') N (fun j hj => (g1 j (by omega) (by omega)).1.1)
        have := g3.2
        omega
    | succ q ih =>
      intro D l3 l4 l5 hq hI hD
      rw [w233_52]
      simp (disch := (first | assumption | omega | exact Nat.le_of_ble_eq_true rfl | rfl)) only [w233_53, w233_56, w233_57, w233_58, w233_59, Ko_n, Ko_v, vX_i, vX_r, vX_l, vX_j, reduceIte, Int.reduceEq]
      refine pass (K 1 * K 2).toNat 0 D D 0 _ _ (by omega) hI hD (Or.inl ⟨rfl, rfl, fun k e a b => by omega⟩) fun D' mo' l3' l4' l5' g1 g2 g3 => ?_
      rcases g3 with g3 | g3
      · rw [g3.1, g3.2.1, w233_52]
        simp (disch := (first | assumption | omega | exact Nat.le_of_ble_eq_true rfl | rfl)) only [w233_53, w233_56, w233_57, w233_58, w233_59, w233_61, w233_62, w233_65, w233_68, w233_69, w233_73, w233_74, w233_77, w233_78, w233_79, w233_81, w233_84, w233_86, w233_88, w233_89, w233_92, w233_93, w233_96, w233_98, w233_99, w233_102, w233_105, w233_106, w233_109, w233_111, w233_112, w233_115, w233_118, w233_119, w233_122, w233_124, w233_125, w233_126, w233_129, w233_131, w233_132, w233_133, w233_134, w233_137, w233_138, w233_139, w233_142, w233_145, w233_146, w233_149, w233_150, w233_151, w233_154, w233_156, w233_157, w233_158, w233_161, w233_163, w233_164, w233_165, w233_166, w233_167, w233_168, w233_171, w233_174, w233_177, w233_180, w233_183, Ko_n, Ko_v, vX_i, vX_r, vX_l, vX_j, reduceIte]
        exact done D hI hD g3.2.2
      · rw [g3.1]
        exact ih D' _ _ _ (by have := g3.2; omega) g1 g2
  -- the start
  have loop : ∀ (m n : Nat), (n : Int) + m = K 1 * K 2 → Wp (d + 2) M_X12_laysRest 2 [.ref 382, .int (i32 t), .int (i32 n), vmJ, vmJ, vmJ] [] (E T (upA σ 1221 382 (fil (σ 1221 382) n hiR))) Q := by
    intro m
    induction m with
    | zero =>
      intro n hn
      have hn' : (n : Int) = K 1 * K 2 := by omega
      have hfl : ∀ z : Int, 0 ≤ z → z < N → fil (σ 1221 382) (K 1 * K 2) hiR z = hiR := fun z z0 z1 => by unfold fil; rw [if_pos (by omega)]
      rw [w233_2]
      simp (disch := (first | assumption | omega | exact Nat.le_of_ble_eq_true rfl | rfl)) only [w233_3, w233_4, Ko_n, Ko_v, vX_i, vX_r, vX_l, vX_j, reduceIte]
      rw [c210 (cK _)]
      by_cases ct : c t = -1
      · have hPt : σ 1219 382 t = 536870912 := by rw [hP t t0 t1]; unfold rp; rw [if_pos ct]; rfl
        have hI : bfI lo (fu (fil (σ 1221 382) (K 1 * K 2) hiR) t 536870912) N := fun z z0 z1 => by
          have : fu (fil (σ 1221 382) (K 1 * K 2) hiR) t 536870912 z = hiR := by
            by_cases e : z = t
            · rw [e, fu_s]; rfl
            · rw [fu_n e]; exact hfl z z0 z1
          rw [this]
          exact ⟨⟨by omega, by omega⟩, fun w => by omega⟩
        simp (disch := (first | assumption | omega | exact Nat.le_of_ble_eq_true rfl | rfl)) only [w233_7, w233_10, w233_11, w233_14, w233_15, w233_18, w233_19, w233_22, w233_25, w233_26, w233_29, w233_30, w233_31, w233_34, w233_35, w233_36, w233_39, w233_42, w233_45, w233_48, w233_49, w233_50, w233_51, Ko_n, Ko_v, vX_i, vX_r, vX_l, vX_j, reduceIte, hn', Int.le_refl, upA_s, upA_t, upA_upA, hPt, not_true]
        exact outer (smD2 (fu (fil (σ 1221 382) (K 1 * K 2) hiR) t 536870912) N).toNat _ _ _ _ (by omega) hI (fun w => absurd ct w)
      · have hPt : σ 1219 382 t = c t := by rw [hP t t0 t1]; unfold rp; rw [if_neg ct]
        have hI : bfI lo (fu (fil (σ 1221 382) (K 1 * K 2) hiR) t 0) N := fun z z0 z1 => by
          by_cases e : z = t
          · rw [e, fu_s]
            refine ⟨⟨by omega, by omega⟩, fun _ => ⟨?_, ?_⟩⟩
            · rw [← hy]
              unfold loR rsF
              rw [if_neg ct, dD_0 h hc hN t0 t1 ct, if_pos (by omega)]
              omega
            · have := cnt_lt (p := fun _ => false) (q := fun z => decide (fu (fil (σ 1221 382) (K 1 * K 2) hiR) t 0 z < hiR)) (j := t.toNat) (by
                rw [show ((t.toNat : Nat) : Int) = t by omega]
                exact decide_eq_true (by rw [fu_s]; omega)) rfl N (fun _ _ w => by cases w) (by omega)
              have c0 := (cnt_in (p := fun _ => false) N).1
              have tt : cnt (fun _ => false) N + 1 ≤ fnD (fu (fil (σ 1221 382) (K 1 * K 2) hiR) t 0) N := this
              omega
          · rw [fu_n e, hfl z z0 z1]
            exact ⟨⟨by omega, by omega⟩, fun w => by omega⟩
        simp (disch := (first | assumption | omega | exact Nat.le_of_ble_eq_true rfl | rfl)) only [w233_7, w233_10, w233_11, w233_14, w233_15, w233_18, w233_19, w233_22, w233_25, w233_26, w233_29, w233_30, w233_31, w233_34, w233_35, w233_36, w233_39, w233_42, w233_45, w233_48, w233_49, w233_50, w233_51, Ko_n, Ko_v, vX_i, vX_r, vX_l, vX_j, reduceIte, hn', Int.le_refl, upA_s, upA_t, upA_upA, hPt, show ¬ c t = 536870912 by omega, not_false_eq_true]
        exact outer (smD2 (fu (fil (σ 1221 382) (K 1 * K 2) hiR) t 0) N).toNat _ _ _ _ (by omega) hI (fun _ => fu_s)
    | succ m ih =>
      intro n hn
      have ih' := ih (n + 1) (by omega)
      rw [show ((n + 1 : Nat) : Int) = (n : Int) + 1 by omega, ← fil_fu (by omega)] at ih'
      rw [w233_2]
      simp (disch := (first | assumption | omega | exact Nat.le_of_ble_eq_true rfl | rfl)) only [w233_3, w233_4, Ko_n, Ko_v, vX_i, vX_r, vX_l, vX_j, reduceIte]
      rw [c210 (cK _)]
      simp (disch := (first | assumption | omega | exact Nat.le_of_ble_eq_true rfl | rfl)) only [w233_7, w233_10, w233_11, w233_14, w233_15, w233_18, w233_19, w233_22, Ko_n, Ko_v, vX_i, vX_r, vX_l, vX_j, reduceIte, show ¬ K 1 * K 2 ≤ (n : Int) by omega, upA_s, upA_upA]
      exact ih'
  have l := loop (K 1 * K 2).toNat 0 (by omega)
  rw [show ((0 : Nat) : Int) = 0 from rfl, fil_0, upA_self] at l
  simp (disch := (first | assumption | omega | exact Nat.le_of_ble_eq_true rfl | rfl)) only [w233_0, w233_1, Ko_n, Ko_v, vX_i, vX_r, vX_l, vX_j, reduceIte]
  exact l
