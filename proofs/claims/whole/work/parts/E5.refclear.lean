/-! ===== the reference: laysCleared ===== -/
def rwF (lv : Int) (G D : Int → Int) : Int → Int := fun j => if 36 * lv ≤ j ∧ j < 36 * lv + 36 then D (j - 36 * lv) else G j
theorem rwF_fu {lv s v : Int} {G D : Int → Int} (s0 : 0 ≤ s) (s1 : s < 36) : fu (rwF lv G D) (36 * lv + s) v = rwF lv G (fu D s v) := by
  funext j
  show (if j = 36 * lv + s then v else (if 36 * lv ≤ j ∧ j < 36 * lv + 36 then D (j - 36 * lv) else G j)) = if 36 * lv ≤ j ∧ j < 36 * lv + 36 then (if j - 36 * lv = s then v else D (j - 36 * lv)) else G j
  by_cases e : j = 36 * lv + s
  · rw [if_pos e, if_pos (by omega), if_pos (by omega)]
  · rw [if_neg e]
    by_cases e2 : 36 * lv ≤ j ∧ j < 36 * lv + 36
    · rw [if_pos e2, if_pos e2, if_neg (by omega)]
    · rw [if_neg e2, if_neg e2]
theorem rwF_at {lv z : Int} {G D : Int → Int} (z0 : 0 ≤ z) (z1 : z < 36) : rwF lv G D (36 * lv + z) = D z := by
  unfold rwF
  rw [if_pos (by omega)]
  congr 1
  omega
theorem rwF_pr {lv z : Int} {G D : Int → Int} (z1 : z < 36) : rwF lv G D (36 * lv - 36 + z) = G (36 * lv - 36 + z) := by
  unfold rwF
  rw [if_neg (by omega)]
theorem rwF_o {lv j : Int} {G D : Int → Int} (h : j < 36 * lv) : rwF lv G D j = G j := by
  unfold rwF
  rw [if_neg (by omega)]
theorem rwF_self {lv : Int} {G : Int → Int} : rwF lv G (fun z => G (36 * lv + z)) = G := by
  funext j
  unfold rwF
  split
  · show G (36 * lv + (j - 36 * lv)) = G j; congr 1; omega
  · rfl
theorem smD2_cg {D D' : Int → Int} : ∀ n : Nat, (∀ j : Nat, j < n → D j = D' j) → smD2 D n = smD2 D' n
  | 0, _ => rfl
  | n + 1, h => by
    have ih := smD2_cg n (fun j hj => h j (by omega))
    simp only [smD2]
    rw [ih, h n (by omega)]
/-- the row copied -/
theorem clCp {d : Nat} {K X : Int → Int} {n : Nat} {T : Tt} {σ : St} {Q : vmO → vmH → Prop} (hK : σ 1200 382 = K) (h : wh2 (K 1) (K 2)) (hn : n ≤ 36) (hX : ∀ z, 0 ≤ z → z < K 1 * K 2 → X z = if n = 0 then σ 1220 382 z else σ 1227 382 (36 * n - 36 + z))
    (hQ : Wp (d + 2) M_X12_laysCleared 53 [.ref 382, .int (i32 n), .int (i32 (36 * n)), .int (i32 (K 1 * K 2)), vmJ, vmJ, vmJ, vmJ] [] (E T (upA σ 1227 382 (rwF n (σ 1227 382) (cp X (fun z => σ 1227 382 (36 * n + z)) (K 1 * K 2))))) Q) : Wp (d + 2) M_X12_laysCleared 0 [.ref 382, .int (i32 n), vmJ, vmJ, vmJ, vmJ, vmJ, vmJ] [] (E T σ) Q := by
  have h0 := ob_md
  have hm := wh_mul h
  have cK : ∀ D, (upA σ 1227 382 D) 1200 382 = K := fun D => by rw [upA_t (by omega)]; exact hK
  have loop : ∀ (m i : Nat), (i : Int) + m = K 1 * K 2 → Wp (d + 2) M_X12_laysCleared 7 [.ref 382, .int (i32 n), .int (i32 (36 * n)), .int (i32 i), vmJ, vmJ, vmJ, vmJ] [] (E T (upA σ 1227 382 (rwF n (σ 1227 382) (cp X (fun z => σ 1227 382 (36 * n + z)) i)))) Q := by
    intro m
    induction m with
    | zero =>
      intro i hi
      have hi : (i : Int) = K 1 * K 2 := by omega
      rw [w267_7]
      simp (disch := (first | assumption | omega | exact Nat.le_of_ble_eq_true rfl | rfl)) only [w267_8, w267_9, Ko_n, Ko_v, vX_i, vX_r, vX_l, vX_j, reduceIte]
      rw [c210 (cK _)]
      simp (disch := (first | assumption | omega | exact Nat.le_of_ble_eq_true rfl | rfl)) only [w267_12, w267_15, w267_16, w267_19, w267_20, w267_21, w267_22, w267_23, w267_26, w267_27, w267_30, w267_31, w267_32, w267_35, w267_36, w267_39, w267_40, w267_42, w267_43, w267_44, w267_45, w267_46, w267_47, w267_50, Ko_n, Ko_v, vX_i, vX_r, vX_l, vX_j, reduceIte, hi, Int.le_refl]
      exact hQ
    | succ m ih =>
      intro i hi
      have ih' := ih (i + 1) (by omega)
      have hx := hX i (by omega) (by omega)
      rw [show ((i + 1 : Nat) : Int) = (i : Int) + 1 by omega, ← cp_fu (by omega), ← rwF_fu (by omega) (by omega)] at ih'
      rw [w267_7]
      simp (disch := (first | assumption | omega | exact Nat.le_of_ble_eq_true rfl | rfl)) only [w267_8, w267_9, Ko_n, Ko_v, vX_i, vX_r, vX_l, vX_j, reduceIte]
      rw [c210 (cK _)]
      by_cases e : n = 0
      · rw [if_pos e] at hx
        have en : (n : Int) = 0 := by omega
        simp (disch := (first | assumption | omega | exact Nat.le_of_ble_eq_true rfl | rfl)) only [w267_12, w267_15, w267_16, w267_19, w267_20, w267_21, w267_22, w267_23, w267_26, w267_27, w267_30, w267_31, w267_32, w267_35, w267_36, w267_39, w267_40, w267_42, w267_43, w267_44, w267_45, w267_46, w267_47, w267_50, Ko_n, Ko_v, vX_i, vX_r, vX_l, vX_j, reduceIte, show ¬ K 1 * K 2 ≤ (i : Int) by omega, en, not_true, upA_t, upA_s, upA_upA]
        rw [hx, en] at ih'
        exact ih'
      · rw [if_neg e] at hx
        have rp := rwF_pr (lv := (n : Int)) (z := (i : Int)) (G := σ 1227 382) (D := cp X (fun z => σ 1227 382 (36 * n + z)) i) (by omega)
        simp (disch := (first | assumption | omega | exact Nat.le_of_ble_eq_true rfl | rfl)) only [w267_12, w267_15, w267_16, w267_19, w267_20, w267_21, w267_22, w267_23, w267_26, w267_27, w267_30, w267_31, w267_32, w267_35, w267_36, w267_39, w267_40, w267_42, w267_43, w267_44, w267_45, w267_46, w267_47, w267_50, Ko_n, Ko_v, vX_i, vX_r, vX_l, vX_j, reduceIte, show ¬ K 1 * K 2 ≤ (i : Int) by omega, show ¬ (n : Int) = 0 by omega, not_false_eq_true, upA_t, upA_s, upA_upA, rp]
        rw [hx] at ih'
        exact ih'
  have l := loop (K 1 * K 2).toNat 0 (by omega)
  rw [show ((0 : Nat) : Int) = 0 from rfl, cp_0, rwF_self, upA_self] at l
  simp (disch := (first | assumption | omega | exact Nat.le_of_ble_eq_true rfl | rfl)) only [w267_0, w267_2, w267_3, w267_4, w267_5, w267_6, Ko_n, Ko_v, vX_i, vX_r, vX_l, vX_j, reduceIte]
  exact l
theorem c267_0 {d : Nat} {k : Int} {K y : Int → Int} {T : Tt} {σ : St} {Q : vmO → vmH → Prop} (hK : σ 1200 382 = K) (h : wh2 (K 1) (K 2)) (hD : ∀ z, 0 ≤ z → z < K 1 * K 2 → σ 1220 382 z = rf (y z))
    (hQ : ∀ F, (∀ z, 0 ≤ z → z < K 1 * K 2 → F (36 * 0 + z) = rf (y z)) → Q (.inl none) (E T (upA σ 1227 382 F))) : Ca (d + 2) k 267 [.ref 382, .int (i32 0)] (E T σ) Q := by
  have h0 := ob_md
  have hm := wh_mul h
  rw [n267 _ _ _ _ _ _ _ h0]
  have q := hQ (rwF 0 (σ 1227 382) (cp (σ 1220 382) (fun z => σ 1227 382 (36 * 0 + z)) (K 1 * K 2))) (fun z z0 z1 => by
    rw [rwF_at z0 (by omega), cp_lt z0 z1]
    exact hD z z0 z1)
  refine clCp (n := 0) (X := σ 1220 382) hK h (by omega) (fun z z0 z1 => by rw [if_pos rfl]) ?_
  simp (disch := (first | assumption | omega | exact Nat.le_of_ble_eq_true rfl | rfl)) only [w267_53, w267_54, w267_57, w267_58, w267_61, w267_62, Ko_n, Ko_v, vX_i, vX_r, vX_l, vX_j, reduceIte, show ((0 : Nat) : Int) = 0 from rfl, Int.le_refl]
  rw [w267_63]
  simp (disch := (first | assumption | omega | exact Nat.le_of_ble_eq_true rfl | rfl)) only [w267_64, Ko_n, Ko_v, vX_i, vX_r, vX_l, vX_j, reduceIte, show ((0 : Nat) : Int) = 0 from rfl, Int.le_refl]
  simp (disch := (first | assumption | omega | exact Nat.le_of_ble_eq_true rfl | rfl)) only [w267_203, Ko_n, Ko_v, vX_i, vX_r, vX_l, vX_j, reduceIte]
  exact q
theorem c267 {d N n : Nat} {k : Int} {K c kd y y' : Int → Int} {T : Tt} {σ : St} {Q : vmO → vmH → Prop} (hK : σ 1200 382 = K) (h : wh2 (K 1) (K 2)) (hN : (N : Int) = K 1 * K 2) (hc : csIn c (K 1 * K 2)) (hP : ∀ z, 0 ≤ z → z < K 1 * K 2 → σ 1219 382 z = rp (c z)) (hk : kdC kd c (K 1 * K 2)) (hb : bnR y (K 1 * K 2)) (hy : cl1 (K 1) (K 2) c y) (hg : gr1 (K 1) (K 2) c (clr (K 1) (K 2) kd y) y') (n1 : 1 ≤ n) (n36 : n ≤ 36) (hR : ∀ z, 0 ≤ z → z < K 1 * K 2 → σ 1227 382 (36 * n - 36 + z) = rf (y z))
    (hQ : ∀ F, (∀ z, 0 ≤ z → z < K 1 * K 2 → F (36 * n + z) = rf (y' z)) → Q (.inl none) (E T (upA σ 1227 382 F))) : Ca (d + 2) k 267 [.ref 382, .int (i32 n)] (E T σ) Q := by
  have h0 := ob_md
  have hm := wh_mul h
  have hfar : far = 1000000000 := rfl
  have hhi : hiR = 536870912 := rfl
  have cK : ∀ D, (upA σ 1227 382 D) 1200 382 = K := fun D => by rw [upA_t (by omega)]; exact hK
  have bv := clv h hc hk hb hy hg
  have inD : ∀ D, bcI (K 1) (K 2) y y' D → ∀ z, 0 ≤ z → z < K 1 * K 2 → (0 ≤ D z ∧ D z ≤ hiR) := by
    intro D hI z z0 z1
    have a := hI z z0 z1
    have b := hb z z0 z1
    have b2 := bv.1 z z0 z1
    by_cases e : y z < far
    · have := a.2 e; have := bv.2.2 z z0 z1 e; omega
    · have := a.1 (by omega); omega
  rw [n267 _ _ _ _ _ _ _ h0]
  -- one cell's sides
  have sides : ∀ (m e : Nat) (D : Int → Int) (k : Int) (mo : Int) (l6 l7 : Value), e + m = 4 → 0 ≤ k → k < K 1 * K 2 → bcI (K 1) (K 2) y y' D → (mo = 0 ∨ mo = 1) → (∀ D' mo' l6' l7', bcI (K 1) (K 2) y y' D' → ((mo' = mo ∧ D' = D ∧ ∀ e', (e : Int) ≤ e' → e' < 4 → nlC (K 1) (K 2) c y D k e') ∨ (mo' = 1 ∧ smD2 D' N < smD2 D N)) → Wp (d + 2) M_X12_laysCleared 194 [.ref 382, .int (i32 n), .int (i32 (36 * n)), .int (i32 mo'), .int (i32 k), .int (i32 4), l6', l7'] [] (E T (upA σ 1227 382 (rwF n (σ 1227 382) D'))) Q) → Wp (d + 2) M_X12_laysCleared 84 [.ref 382, .int (i32 n), .int (i32 (36 * n)), .int (i32 mo), .int (i32 k), .int (i32 e), l6, l7] [] (E T (upA σ 1227 382 (rwF n (σ 1227 382) D))) Q := by
    intro m
    induction m with
    | zero =>
      intro e D k mo l6 l7 he k0 k1 hI hmo hG
      have he : e = 4 := by omega
      subst he
      rw [w267_84]
      simp (disch := (first | assumption | omega | exact Nat.le_of_ble_eq_true rfl | rfl)) only [w267_86, w267_87, w267_90, w267_91, w267_93, w267_95, w267_98, w267_100, w267_102, w267_103, w267_106, w267_107, w267_110, w267_112, w267_113, w267_116, w267_119, w267_122, w267_123, w267_126, w267_127, w267_129, w267_130, w267_131, w267_132, w267_135, w267_137, w267_138, w267_139, w267_140, w267_143, w267_144, w267_146, w267_147, w267_149, w267_150, w267_151, w267_152, w267_153, w267_156, w267_158, w267_160, w267_161, w267_164, w267_165, w267_167, w267_168, w267_169, w267_172, w267_175, w267_176, w267_179, w267_180, w267_182, w267_183, w267_185, w267_186, w267_187, w267_188, w267_191, Ko_n, Ko_v, vX_i, vX_r, vX_l, vX_j, reduceIte, show (4 : Int) ≤ ((4 : Nat) : Int) by omega]
      exact hG D mo l6 l7 hI (Or.inl ⟨rfl, rfl, fun e' a b => by omega⟩)
    | succ m ih =>
      intro e D k mo l6 l7 he k0 k1 hI hmo hG
      have hbs := bsC_in (e := (e : Int)) h k0 k1
      have ik := inD D hI k k0 k1
      rw [w267_84]
      simp (disch := (first | assumption | omega | exact Nat.le_of_ble_eq_true rfl | rfl)) only [w267_86, w267_87, w267_90, w267_91, w267_93, w267_95, Ko_n, Ko_v, vX_i, vX_r, vX_l, vX_j, reduceIte, show ¬ (4 : Int) ≤ (e : Int) by omega]
      rw [c219 (cK _) h k0 k1 (by omega) (by omega)]
      have skip : ∀ l6 l7, nlC (K 1) (K 2) c y D k e → Wp (d + 2) M_X12_laysCleared 188 [.ref 382, .int (i32 n), .int (i32 (36 * n)), .int (i32 mo), .int (i32 k), .int (i32 e), l6, l7] [] (E T (upA σ 1227 382 (rwF n (σ 1227 382) D))) Q := by
        intro l6 l7 hnl
        simp (disch := (first | assumption | omega | exact Nat.le_of_ble_eq_true rfl | rfl)) only [w267_188, w267_191, Ko_n, Ko_v, vX_i, vX_r, vX_l, vX_j, reduceIte]
        refine ih (e + 1) D k mo l6 l7 (by omega) k0 k1 hI hmo fun D' mo' l6' l7' g1 g3 => hG D' mo' l6' l7' g1 ?_
        rcases g3 with g3 | g3
        · refine Or.inl ⟨g3.1, g3.2.1, fun e' a b => ?_⟩
          by_cases ee : e' = e
          · rw [ee]; exact hnl
          · exact g3.2.2 e' (by omega) b
        · exact Or.inr g3
      by_cases e1 : bsC (K 1) (K 2) k e = -1
      · simp (disch := (first | assumption | omega | exact Nat.le_of_ble_eq_true rfl | rfl)) only [w267_98, w267_100, w267_102, w267_103, w267_106, w267_107, w267_110, w267_112, w267_113, w267_116, w267_119, w267_122, w267_123, w267_126, w267_127, w267_129, w267_130, w267_131, w267_132, w267_135, w267_137, w267_138, w267_139, w267_140, w267_143, w267_144, w267_146, w267_147, w267_149, w267_150, w267_151, w267_152, w267_153, w267_156, w267_158, w267_160, w267_161, w267_164, w267_165, w267_167, w267_168, w267_169, w267_172, w267_175, w267_176, w267_179, w267_180, w267_182, w267_183, w267_185, w267_186, w267_187, Ko_n, Ko_v, vX_i, vX_r, vX_l, vX_j, reduceIte, e1]
        exact skip _ _ (Or.inl e1)
      · have hb1 : 0 ≤ bsC (K 1) (K 2) k e ∧ bsC (K 1) (K 2) k e < K 1 * K 2 := by omega
        have hcs := hc _ hb1.1 hb1.2
        have hPb := hP _ hb1.1 hb1.2
        have ib := inD D hI _ hb1.1 hb1.2
        by_cases e2 : c (bsC (K 1) (K 2) k e) = -1
        · have hPb2 : σ 1219 382 (bsC (K 1) (K 2) k e) = 536870912 := by rw [hPb]; unfold rp; rw [if_pos e2]; rfl
          simp (disch := (first | assumption | omega | exact Nat.le_of_ble_eq_true rfl | rfl)) only [w267_98, w267_100, w267_102, w267_103, w267_106, w267_107, w267_110, w267_112, w267_113, w267_116, w267_119, w267_122, w267_123, w267_126, w267_127, w267_129, w267_130, w267_131, w267_132, w267_135, w267_137, w267_138, w267_139, w267_140, w267_143, w267_144, w267_146, w267_147, w267_149, w267_150, w267_151, w267_152, w267_153, w267_156, w267_158, w267_160, w267_161, w267_164, w267_165, w267_167, w267_168, w267_169, w267_172, w267_175, w267_176, w267_179, w267_180, w267_182, w267_183, w267_185, w267_186, w267_187, Ko_n, Ko_v, vX_i, vX_r, vX_l, vX_j, reduceIte, e1, upA_t, hPb2, not_true]
          exact skip _ _ (Or.inr (Or.inl e2))
        · have hPb2 : σ 1219 382 (bsC (K 1) (K 2) k e) = c (bsC (K 1) (K 2) k e) := by rw [hPb]; unfold rp; rw [if_neg e2]
          have rk := rwF_at (lv := (n : Int)) (G := σ 1227 382) (D := D) k0 (by omega)
          have rb := rwF_at (lv := (n : Int)) (G := σ 1227 382) (D := D) hb1.1 (by omega)
          have rq := rwF_pr (lv := (n : Int)) (z := k) (G := σ 1227 382) (D := D) (by omega)
          have ry := hR k k0 k1
          rw [ry] at rq
          have ryb : 0 ≤ rf (y k) ∧ rf (y k) ≤ hiR := by
            rcases rf_in (hb k k0 k1) with a | a <;> omega
          have st := bc_s (e := (e : Int)) h hc hk hb hy hg hI k0 k1 (by omega) (by omega) e1 e2
          have nl : ¬ min (D k + c (bsC (K 1) (K 2) k e)) (rf (y k) + 1) < D (bsC (K 1) (K 2) k e) → nlC (K 1) (K 2) c y D k e := fun t => Or.inr (Or.inr (by omega))
          have rfu := fun v => rwF_fu (lv := (n : Int)) (s := bsC (K 1) (K 2) k e) (v := v) (G := σ 1227 382) (D := D) hb1.1 (by omega)
          have sm := fun v => smD2_fu (D := D) (b := bsC (K 1) (K 2) k e) (v := v) hb1.1 N
          generalize bsC (K 1) (K 2) k e = b at hbs e1 hb1 hcs hPb ib e2 hPb2 rb st nl rfu sm ⊢
          by_cases e3 : min (D k + c b) (rf (y k) + 1) < D b
          · have st' := st e3
            have sm' := sm (min (D k + c b) (rf (y k) + 1))
            rw [if_pos (by omega)] at sm'
            simp (disch := (first | assumption | omega | exact Nat.le_of_ble_eq_true rfl | rfl)) only [w267_98, w267_100, w267_102, w267_103, w267_106, w267_107, w267_110, w267_112, w267_113, w267_116, w267_119, w267_122, w267_123, w267_126, w267_127, w267_129, w267_130, w267_131, w267_132, w267_135, w267_137, w267_138, w267_139, w267_140, w267_143, w267_144, w267_146, w267_147, w267_149, w267_150, w267_151, w267_152, w267_153, w267_156, w267_158, w267_160, w267_161, w267_164, w267_165, w267_167, w267_168, w267_169, w267_172, w267_175, w267_176, w267_179, w267_180, w267_182, w267_183, w267_185, w267_186, w267_187, w267_188, w267_191, Ko_n, Ko_v, vX_i, vX_r, vX_l, vX_j, reduceIte, e1, upA_t, upA_s, hPb2, show ¬ c b = 536870912 by omega, not_false_eq_true, rk, rb, rq, e3, upA_upA, rfu]
            refine ih (e + 1) _ k 1 _ _ (by omega) k0 k1 st' (Or.inr rfl) fun D' mo' l6' l7' g1 g3 => hG D' mo' l6' l7' g1 (Or.inr ?_)
            rcases g3 with g3 | g3
            · exact ⟨g3.1, by rw [g3.2.1]; omega⟩
            · exact ⟨g3.1, by have := g3.2; omega⟩
          · simp (disch := (first | assumption | omega | exact Nat.le_of_ble_eq_true rfl | rfl)) only [w267_98, w267_100, w267_102, w267_103, w267_106, w267_107, w267_110, w267_112, w267_113, w267_116, w267_119, w267_122, w267_123, w267_126, w267_127, w267_129, w267_130, w267_131, w267_132, w267_135, w267_137, w267_138, w267_139, w267_140, w267_143, w267_144, w267_146, w267_147, w267_149, w267_150, w267_151, w267_152, w267_153, w267_156, w267_158, w267_160, w267_161, w267_164, w267_165, w267_167, w267_168, w267_169, w267_172, w267_175, w267_176, w267_179, w267_180, w267_182, w267_183, w267_185, w267_186, w267_187, Ko_n, Ko_v, vX_i, vX_r, vX_l, vX_j, reduceIte, e1, upA_t, upA_s, hPb2, show ¬ c b = 536870912 by omega, not_false_eq_true, rk, rb, rq, e3]
            exact skip _ _ (nl e3)
  -- all cells once
  have pass : ∀ (m i : Nat) (D0 D : Int → Int) (mo : Int) (l5 l6 l7 : Value), (i : Int) + m = K 1 * K 2 → bcI (K 1) (K 2) y y' D → ((mo = 0 ∧ D = D0 ∧ ∀ k e : Int, 0 ≤ k → k < i → 0 ≤ e → e < 4 → nlC (K 1) (K 2) c y D0 k e) ∨ (mo = 1 ∧ smD2 D N < smD2 D0 N)) → (∀ D' mo' l4' l5' l6' l7', bcI (K 1) (K 2) y y' D' → ((mo' = 0 ∧ D' = D0 ∧ ∀ k e : Int, 0 ≤ k → k < K 1 * K 2 → 0 ≤ e → e < 4 → nlC (K 1) (K 2) c y D0 k e) ∨ (mo' = 1 ∧ smD2 D' N < smD2 D0 N)) → Wp (d + 2) M_X12_laysCleared 63 [.ref 382, .int (i32 n), .int (i32 (36 * n)), .int (i32 mo'), l4', l5', l6', l7'] [] (E T (upA σ 1227 382 (rwF n (σ 1227 382) D'))) Q) → Wp (d + 2) M_X12_laysCleared 72 [.ref 382, .int (i32 n), .int (i32 (36 * n)), .int (i32 mo), .int (i32 i), l5, l6, l7] [] (E T (upA σ 1227 382 (rwF n (σ 1227 382) D))) Q := by
    intro m
    induction m with
    | zero =>
      intro i D0 D mo l5 l6 l7 hi hI hs hG
      have hi' : (i : Int) = K 1 * K 2 := by omega
      rw [w267_72]
      simp (disch := (first | assumption | omega | exact Nat.le_of_ble_eq_true rfl | rfl)) only [w267_74, w267_75, Ko_n, Ko_v, vX_i, vX_r, vX_l, vX_j, reduceIte]
      rw [c210 (cK _)]
      simp (disch := (first | assumption | omega | exact Nat.le_of_ble_eq_true rfl | rfl)) only [w267_78, w267_81, w267_82, Ko_n, Ko_v, vX_i, vX_r, vX_l, vX_j, reduceIte, hi', Int.le_refl]
      simp (disch := (first | assumption | omega | exact Nat.le_of_ble_eq_true rfl | rfl)) only [w267_200, Ko_n, Ko_v, vX_i, vX_r, vX_l, vX_j, reduceIte]
      refine hG D mo _ _ _ _ hI ?_
      rcases hs with hs | hs
      · exact Or.inl ⟨hs.1, hs.2.1, fun k e a b => hs.2.2 k e a (by omega)⟩
      · exact Or.inr hs
    | succ m ih =>
      intro i D0 D mo l5 l6 l7 hi hI hs hG
      have hmo : mo = 0 ∨ mo = 1 := by rcases hs with hs | hs; exact Or.inl hs.1; exact Or.inr hs.1
      rw [w267_72]
      simp (disch := (first | assumption | omega | exact Nat.le_of_ble_eq_true rfl | rfl)) only [w267_74, w267_75, Ko_n, Ko_v, vX_i, vX_r, vX_l, vX_j, reduceIte]
      rw [c210 (cK _)]
      simp (disch := (first | assumption | omega | exact Nat.le_of_ble_eq_true rfl | rfl)) only [w267_78, w267_81, w267_82, Ko_n, Ko_v, vX_i, vX_r, vX_l, vX_j, reduceIte, show ¬ K 1 * K 2 ≤ (i : Int) by omega]
      refine sides 4 0 D i mo _ _ (by omega) (by omega) (by omega) hI hmo fun D' mo' l6' l7' g1 g3 => ?_
      simp (disch := (first | assumption | omega | exact Nat.le_of_ble_eq_true rfl | rfl)) only [w267_194, w267_197, Ko_n, Ko_v, vX_i, vX_r, vX_l, vX_j, reduceIte]
      refine ih (i + 1) D0 D' mo' _ l6' l7' (by omega) g1 ?_ hG
      rcases g3 with g3 | g3
      · rcases hs with hs | hs
        · refine Or.inl ⟨by rw [g3.1]; exact hs.1, by rw [g3.2.1]; exact hs.2.1, fun k e a b x y => ?_⟩
          by_cases ek : k = i
          · rw [ek]; have := g3.2.2 e x y; rw [hs.2.1] at this; exact this
          · exact hs.2.2 k e a (by omega) x y
        · exact Or.inr ⟨by rw [g3.1]; exact hs.1, by rw [g3.2.1]; exact hs.2⟩
      · refine Or.inr ⟨g3.1, ?_⟩
        rcases hs with hs | hs
        · rw [← hs.2.1]; exact g3.2
        · have := hs.2; have := g3.2; omega
  have fin : ∀ D l4 l5 l6 l7, bcI (K 1) (K 2) y y' D → (∀ k e : Int, 0 ≤ k → k < K 1 * K 2 → 0 ≤ e → e < 4 → nlC (K 1) (K 2) c y D k e) → Wp (d + 2) M_X12_laysCleared 63 [.ref 382, .int (i32 n), .int (i32 (36 * n)), .int (i32 0), l4, l5, l6, l7] [] (E T (upA σ 1227 382 (rwF n (σ 1227 382) D))) Q := by
    intro D l4 l5 l6 l7 hI hE
    have q := hQ (rwF n (σ 1227 382) D) (fun z z0 z1 => by
      rw [rwF_at z0 (by omega)]
      exact bc_end h hc hk hb hy hg hI hE z z0 z1)
    rw [w267_63]
    simp (disch := (first | assumption | omega | exact Nat.le_of_ble_eq_true rfl | rfl)) only [w267_64, Ko_n, Ko_v, vX_i, vX_r, vX_l, vX_j, reduceIte]
    simp (disch := (first | assumption | omega | exact Nat.le_of_ble_eq_true rfl | rfl)) only [w267_203, Ko_n, Ko_v, vX_i, vX_r, vX_l, vX_j, reduceIte]
    exact q
  -- until nothing is left
  have outer : ∀ (q : Nat) (D : Int → Int) (l4 l5 l6 l7 : Value), smD2 D N ≤ q → bcI (K 1) (K 2) y y' D → Wp (d + 2) M_X12_laysCleared 63 [.ref 382, .int (i32 n), .int (i32 (36 * n)), .int (i32 1), l4, l5, l6, l7] [] (E T (upA σ 1227 382 (rwF n (σ 1227 382) D))) Q := by
    intro q
    induction q with
    | zero =>
      intro D l4 l5 l6 l7 hq hI
      rw [w267_63]
      simp (disch := (first | assumption | omega | exact Nat.le_of_ble_eq_true rfl | rfl)) only [w267_64, w267_67, w267_68, w267_69, w267_70, Ko_n, Ko_v, vX_i, vX_r, vX_l, vX_j, reduceIte, Int.reduceEq]
      refine pass (K 1 * K 2).toNat 0 D D 0 _ _ _ (by omega) hI (Or.inl ⟨rfl, rfl, fun k e a b => by omega⟩) fun D' mo' l4' l5' l6' l7' g1 g3 => ?_
      rcases g3 with g3 | g3
      · rw [g3.1, g3.2.1]
        exact fin D _ _ _ _ hI g3.2.2
      · exfalso
        have := smD2_nn (D := D') N (fun j hj => (inD D' g1 j (by omega) (by omega)).1)
        have := g3.2
        omega
    | succ q ih =>
      intro D l4 l5 l6 l7 hq hI
      rw [w267_63]
      simp (disch := (first | assumption | omega | exact Nat.le_of_ble_eq_true rfl | rfl)) only [w267_64, w267_67, w267_68, w267_69, w267_70, Ko_n, Ko_v, vX_i, vX_r, vX_l, vX_j, reduceIte, Int.reduceEq]
      refine pass (K 1 * K 2).toNat 0 D D 0 _ _ _ (by omega) hI (Or.inl ⟨rfl, rfl, fun k e a b => by omega⟩) fun D' mo' l4' l5' l6' l7' g1 g3 => ?_
      rcases g3 with g3 | g3
      · rw [g3.1, g3.2.1]
        exact fin D _ _ _ _ hI g3.2.2
      · rw [g3.1]
        exact ih D' _ _ _ _ (by have := g3.2; omega) g1
  refine clCp (X := fun z => rf (y z)) hK h n36 (fun z z0 z1 => by rw [if_neg (by omega)]; exact (hR z z0 z1).symm) ?_
  simp (disch := (first | assumption | omega | exact Nat.le_of_ble_eq_true rfl | rfl)) only [w267_53, w267_54, w267_57, w267_58, w267_61, w267_62, Ko_n, Ko_v, vX_i, vX_r, vX_l, vX_j, reduceIte, show ¬ (n : Int) ≤ 0 by omega]
  refine outer (smD2 (cp (fun z => rf (y z)) (fun z => σ 1227 382 (36 * n + z)) (K 1 * K 2)) N).toNat _ _ _ _ _ (by omega) ?_
  intro z z0 z1
  rw [cp_lt z0 z1]
  exact bcI_0 hb bv.2.1 z z0 z1
