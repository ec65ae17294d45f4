/-! ===== the reference: laysPath, way ===== -/
def yK (K : Int → Int) (w t : Int) : Int → Int := dD (K 1) (K 2) (prK K w) t (nK K)
def pK2 (K : Int → Int) (w t : Int) : Nat → Int := pt (K 1) (K 2) (prK K w) (yK K w t) (K (79 + w))
theorem c259 {d : Nat} {k w t B : Int} {K : Int → Int} {T : Tt} {σ : St} {Q : vmO → vmH → Prop} (hK : σ 1200 382 = K) (hv : kV K B) (hB : B < 900000000) (w0 : 0 ≤ w) (w1 : w < K 3) (t0 : 0 ≤ t) (t1 : t < K 1 * K 2)
    (hQ1 : ¬ yK K w t (K (79 + w)) < far → ∀ τ, fq σ τ → τ 1200 382 = K → Q (.inl (some (.int (i32 (-1))))) (E T τ))
    (hQ2 : yK K w t (K (79 + w)) < far → ∀ m : Nat, m ≤ 35 → ptK (K 1) (K 2) (prK K w) (yK K w t) (K (79 + w)) t m → ∀ τ, fq σ τ → τ 1200 382 = K → (∀ i : Nat, i ≤ m → τ 1224 382 i = pK2 K w t i) → Q (.inl (some (.int (i32 m)))) (E T τ)) : Ca (d + 6) k 259 [.ref 382, .int (i32 w), .int (i32 t)] (E T σ) Q := by
  have h0 := ob_md
  have hfar : far = 1000000000 := rfl
  have hhi : hiR = 536870912 := rfl
  have hN := nK_c hv.1
  obtain ⟨h2, h5, h6, h7⟩ := kV_w hv w0 w1
  have hm := wh_mul h2
  have hc := prK_cs (w := w) hv.1 hv.2.1
  have yb : ∀ z, 0 ≤ z → z < K 1 * K 2 → (0 ≤ yK K w t z ∧ yK K w t z ≤ 6516) ∨ yK K w t z = far := fun z z0 z1 => dD_bnd (z := t) h2 hc hN z0 (by omega)
  have yw : ∀ z, 0 ≤ z → z < K 1 * K 2 → yK K w t z < far → prK K w z ≠ -1 := fun z z0 z1 hf => dD_nw h2 hc hN z0 z1 hf
  have ac : prK K w (K (79 + w)) ≠ -1 := fun e => h7 ((prK_w hv.2.1 h6.1 (by omega)).mp e)
  have hct := hc t t0 t1
  rw [n259 _ _ _ _ _ _ _ _ h0]
  simp (disch := (first | assumption | omega | exact Nat.le_of_ble_eq_true rfl | rfl)) only [w259_0, w259_1, w259_2, Ko_n, Ko_v, vX_i, vX_r, vX_l, vX_j, reduceIte]
  rw [c231 hK hv hB (by omega) (by omega)]
  have hP : ∀ z, 0 ≤ z → z < K 1 * K 2 → (upA σ 1219 382 (cp (prR K w) (σ 1219 382) (K 1 * K 2))) 1219 382 z = rp (prK K w z) := fun z z0 z1 => by
    rw [upA_s]
    unfold cp
    rw [if_pos ⟨z0, z1⟩]
    exact prR_rp hv.2.1 (by omega) z0 (by omega)
  simp (disch := (first | assumption | omega | exact Nat.le_of_ble_eq_true rfl | rfl)) only [w259_5, w259_6, w259_7, Ko_n, Ko_v, vX_i, vX_r, vX_l, vX_j, reduceIte]
  refine c233 (N := nK K) (c := prK K w) (by rw [upA_t (by omega)]; exact hK) h2 hN hc hP t0 t1 fun R hR => ?_
  have f2 : fq σ (upA (upA σ 1219 382 (cp (prR K w) (σ 1219 382) (K 1 * K 2))) 1221 382 R) := fq_u (fq_u fq_r (by omega)) (by omega)
  have k2 : (upA (upA σ 1219 382 (cp (prR K w) (σ 1219 382) (K 1 * K 2))) 1221 382 R) 1200 382 = K := by rw [upA_t (by omega), upA_t (by omega)]; exact hK
  have r2 : (upA (upA σ 1219 382 (cp (prR K w) (σ 1219 382) (K 1 * K 2))) 1221 382 R) 1221 382 = R := upA_s
  have p2 : ∀ z, 0 ≤ z → z < K 1 * K 2 → (upA (upA σ 1219 382 (cp (prR K w) (σ 1219 382) (K 1 * K 2))) 1221 382 R) 1219 382 z = rp (prK K w z) := fun z z0 z1 => by rw [upA_t (by omega)]; exact hP z z0 z1
  generalize upA (upA σ 1219 382 (cp (prR K w) (σ 1219 382) (K 1 * K 2))) 1221 382 R = τ at f2 k2 r2 p2 ⊢
  have hRa := hR _ h6.1 h6.2 ac
  have rv : ∀ z, 0 ≤ z → z < K 1 * K 2 → yK K w t z < far → R z = yK K w t z + prK K w t - prK K w z := fun z z0 z1 hf => by
    rw [hR z z0 z1 (yw z z0 z1 hf)]
    exact if_pos hf
  have rn : ∀ z, 0 ≤ z → z < K 1 * K 2 → prK K w z ≠ -1 → ¬ yK K w t z < far → R z = 536870912 := fun z z0 z1 hn hf => by
    rw [hR z z0 z1 hn]
    exact if_neg hf
  by_cases ya : yK K w t (K (79 + w)) < far
  · obtain ⟨m, m35, hpt⟩ := pt_ex (t := t) h2 hc hN h6.1 h6.2 ya
    have hq := hQ2 ya m m35 hpt
    have hpt' : ptK (K 1) (K 2) (prK K w) (yK K w t) (K (79 + w)) t m := hpt
    have rva := rv _ h6.1 h6.2 ya
    have yba := yb _ h6.1 h6.2
    have hca := hc _ h6.1 h6.2
    -- the four sides
    have inner : ∀ (q e : Nat) (at_ : Int) (P : Int → Int) (len : Int) (l7 : Value), e + q = 4 → 0 ≤ at_ → at_ < K 1 * K 2 → yK K w t at_ < far → (∀ l7, Wp (d + 6) M_X12_laysPath 152 [.ref 382, .int (i32 w), .int (i32 t), .int (i32 at_), .int (i32 len), .int (i32 (onI (K 1) (K 2) (prK K w) (yK K w t) at_ 4)), .int (i32 4), l7] [] (E T (upA τ 1224 382 P)) Q) → Wp (d + 6) M_X12_laysPath 55 [.ref 382, .int (i32 w), .int (i32 t), .int (i32 at_), .int (i32 len), .int (i32 (bst (K 1) (K 2) (prK K w) (yK K w t) at_ e)), .int (i32 e), l7] [] (E T (upA τ 1224 382 P)) Q := by
      intro q
      induction q with
      | zero =>
        intro e at_ P len l7 he a0 a1 af hk
        have he : e = 4 := by omega
        subst he
        have hk' := hk l7
        rw [← bst_on h2 a0 a1] at hk'
        rw [w259_55]
        simp (disch := (first | assumption | omega | exact Nat.le_of_ble_eq_true rfl | rfl)) only [w259_57, w259_58, w259_61, w259_62, w259_63, w259_65, w259_68, w259_70, w259_72, w259_73, w259_76, w259_77, w259_80, w259_82, w259_83, w259_86, w259_89, w259_90, w259_93, w259_95, w259_96, w259_99, w259_102, w259_103, w259_106, w259_108, w259_109, w259_110, w259_113, w259_115, w259_116, w259_117, w259_118, w259_121, w259_122, w259_123, w259_126, w259_129, w259_131, w259_132, w259_135, w259_137, w259_139, w259_142, w259_144, w259_146, w259_149, Ko_n, Ko_v, vX_i, vX_r, vX_l, vX_j, reduceIte, show (4 : Int) ≤ ((4 : Nat) : Int) by omega]
        exact hk'
      | succ q ih =>
        intro e at_ P len l7 he a0 a1 af hk
        have kU : (upA τ 1224 382 P) 1200 382 = K := by rw [upA_t (by omega)]; exact k2
        have ih' := fun l7 => ih (e + 1) at_ P len l7 (by omega) a0 a1 af hk
        rw [show bst (K 1) (K 2) (prK K w) (yK K w t) at_ (e + 1) = if gdP (K 1) (K 2) (prK K w) (yK K w t) at_ (rdD e) ∧ (bst (K 1) (K 2) (prK K w) (yK K w t) at_ e = -1 ∨ nbC (K 1) (K 2) at_ (rdD e) < bst (K 1) (K 2) (prK K w) (yK K w t) at_ e) then nbC (K 1) (K 2) at_ (rdD e) else bst (K 1) (K 2) (prK K w) (yK K w t) at_ e from rfl, show ((e + 1 : Nat) : Int) = (e : Int) + 1 by omega] at ih'
        have hb := bsC_in (e := (e : Int)) h2 a0 a1
        have bI : ∀ j : Nat, -1 ≤ bst (K 1) (K 2) (prK K w) (yK K w t) at_ j ∧ bst (K 1) (K 2) (prK K w) (yK K w t) at_ j < 36 := by
          intro j
          induction j with
          | zero => exact ⟨Int.le_refl _, by show (-1 : Int) < 36; omega⟩
          | succ j ihj =>
            rw [show bst (K 1) (K 2) (prK K w) (yK K w t) at_ (j + 1) = if gdP (K 1) (K 2) (prK K w) (yK K w t) at_ (rdD j) ∧ (bst (K 1) (K 2) (prK K w) (yK K w t) at_ j = -1 ∨ nbC (K 1) (K 2) at_ (rdD j) < bst (K 1) (K 2) (prK K w) (yK K w t) at_ j) then nbC (K 1) (K 2) at_ (rdD j) else bst (K 1) (K 2) (prK K w) (yK K w t) at_ j from rfl]
            have hbj := bsC_in (e := (j : Int)) h2 a0 a1
            unfold bsC at hbj
            by_cases g : gdP (K 1) (K 2) (prK K w) (yK K w t) at_ (rdD j) ∧ (bst (K 1) (K 2) (prK K w) (yK K w t) at_ j = -1 ∨ nbC (K 1) (K 2) at_ (rdD j) < bst (K 1) (K 2) (prK K w) (yK K w t) at_ j)
            · rw [if_pos g]; omega
            · rw [if_neg g]; exact ihj
        have bE := bI e
        rw [w259_55]
        simp (disch := (first | assumption | omega | exact Nat.le_of_ble_eq_true rfl | rfl)) only [w259_57, w259_58, w259_61, w259_62, w259_63, w259_65, Ko_n, Ko_v, vX_i, vX_r, vX_l, vX_j, reduceIte, show ¬ (4 : Int) ≤ (e : Int) by omega]
        rw [c219 kU h2 a0 a1 (by omega) (by omega)]
        have yat := yb at_ a0 a1
        have cat := hc at_ a0 a1
        have rat := rv at_ a0 a1 af
        have ge : gdP (K 1) (K 2) (prK K w) (yK K w t) at_ (rdD e) ↔ (bsC (K 1) (K 2) at_ e ≠ -1 ∧ yK K w t (bsC (K 1) (K 2) at_ e) + prK K w at_ = yK K w t at_) := Iff.rfl
        have ihT : gdP (K 1) (K 2) (prK K w) (yK K w t) at_ (rdD e) → (bst (K 1) (K 2) (prK K w) (yK K w t) at_ e = -1 ∨ bsC (K 1) (K 2) at_ e < bst (K 1) (K 2) (prK K w) (yK K w t) at_ e) → ∀ l7, Wp (d + 6) M_X12_laysPath 55 [.ref 382, .int (i32 w), .int (i32 t), .int (i32 at_), .int (i32 len), .int (i32 (bsC (K 1) (K 2) at_ e)), .int (i32 ((e : Int) + 1)), l7] [] (E T (upA τ 1224 382 P)) Q := fun g x l7 => by
          have i2 := ih' l7
          rw [if_pos ⟨g, x⟩] at i2
          exact i2
        have ihF : (¬ gdP (K 1) (K 2) (prK K w) (yK K w t) at_ (rdD e) ∨ ¬ (bst (K 1) (K 2) (prK K w) (yK K w t) at_ e = -1 ∨ bsC (K 1) (K 2) at_ e < bst (K 1) (K 2) (prK K w) (yK K w t) at_ e)) → ∀ l7, Wp (d + 6) M_X12_laysPath 55 [.ref 382, .int (i32 w), .int (i32 t), .int (i32 at_), .int (i32 len), .int (i32 (bst (K 1) (K 2) (prK K w) (yK K w t) at_ e)), .int (i32 ((e : Int) + 1)), l7] [] (E T (upA τ 1224 382 P)) Q := fun g l7 => by
          have i2 := ih' l7
          rw [if_neg (by rcases g with g | g; exact fun x => g x.1; exact fun x => g x.2)] at i2
          exact i2
        clear ih'
        generalize bsC (K 1) (K 2) at_ e = b at hb ge ihT ihF ⊢
        generalize bst (K 1) (K 2) (prK K w) (yK K w t) at_ e = be at bE ihT ihF ⊢
        have skip : (¬ gdP (K 1) (K 2) (prK K w) (yK K w t) at_ (rdD e) ∨ ¬ (be = -1 ∨ b < be)) → ∀ l7, Wp (d + 6) M_X12_laysPath 146 [.ref 382, .int (i32 w), .int (i32 t), .int (i32 at_), .int (i32 len), .int (i32 be), .int (i32 e), l7] [] (E T (upA τ 1224 382 P)) Q := by
          intro g l7
          simp (disch := (first | assumption | omega | exact Nat.le_of_ble_eq_true rfl | rfl)) only [w259_146, w259_149, Ko_n, Ko_v, vX_i, vX_r, vX_l, vX_j, reduceIte]
          exact ihF g l7
        by_cases e1 : b = -1
        · simp (disch := (first | assumption | omega | exact Nat.le_of_ble_eq_true rfl | rfl)) only [w259_68, w259_70, w259_72, w259_73, w259_76, w259_77, w259_80, w259_82, w259_83, w259_86, w259_89, w259_90, w259_93, w259_95, w259_96, w259_99, w259_102, w259_103, w259_106, w259_108, w259_109, w259_110, w259_113, w259_115, w259_116, w259_117, w259_118, w259_121, w259_122, w259_123, w259_126, w259_129, w259_131, w259_132, w259_135, w259_137, w259_139, w259_142, w259_144, Ko_n, Ko_v, vX_i, vX_r, vX_l, vX_j, reduceIte, e1]
          have s := skip (Or.inl (fun x => (ge.mp x).1 e1)) (.int (i32 b))
          rw [e1] at s
          exact s
        · have b0 : 0 ≤ b ∧ b < K 1 * K 2 := by omega
          have pb := p2 b b0.1 b0.2
          have cb := hc b b0.1 b0.2
          have ybb := yb b b0.1 b0.2
          by_cases e2 : prK K w b = -1
          · have pb2 : τ 1219 382 b = 536870912 := by rw [pb]; unfold rp; rw [if_pos e2]; rfl
            have nf : ¬ yK K w t b < far := fun f => yw b b0.1 b0.2 f e2
            simp (disch := (first | assumption | omega | exact Nat.le_of_ble_eq_true rfl | rfl)) only [w259_68, w259_70, w259_72, w259_73, w259_76, w259_77, w259_80, w259_82, w259_83, w259_86, w259_89, w259_90, w259_93, w259_95, w259_96, w259_99, w259_102, w259_103, w259_106, w259_108, w259_109, w259_110, w259_113, w259_115, w259_116, w259_117, w259_118, w259_121, w259_122, w259_123, w259_126, w259_129, w259_131, w259_132, w259_135, w259_137, w259_139, w259_142, w259_144, Ko_n, Ko_v, vX_i, vX_r, vX_l, vX_j, reduceIte, e1, upA_t, pb2]
            exact skip (Or.inl (fun x => by have := (ge.mp x).2; omega)) _
          · have pb2 : τ 1219 382 b = prK K w b := by rw [pb]; unfold rp; rw [if_neg e2]
            by_cases e3 : yK K w t b < far
            · have rb := rv b b0.1 b0.2 e3
              by_cases e4 : yK K w t b + prK K w at_ = yK K w t at_
              · have g : gdP (K 1) (K 2) (prK K w) (yK K w t) at_ (rdD e) := ge.mpr ⟨e1, e4⟩
                have e5 : prK K w b + R b = R at_ := by omega
                by_cases e6 : be = -1
                · have ih' := ihT g (Or.inl e6)
                  simp (disch := (first | assumption | omega | exact Nat.le_of_ble_eq_true rfl | rfl)) only [w259_68, w259_70, w259_72, w259_73, w259_76, w259_77, w259_80, w259_82, w259_83, w259_86, w259_89, w259_90, w259_93, w259_95, w259_96, w259_99, w259_102, w259_103, w259_106, w259_108, w259_109, w259_110, w259_113, w259_115, w259_116, w259_117, w259_118, w259_121, w259_122, w259_123, w259_126, w259_129, w259_131, w259_132, w259_135, w259_137, w259_139, w259_142, w259_144, w259_146, w259_149, Ko_n, Ko_v, vX_i, vX_r, vX_l, vX_j, reduceIte, e1, upA_t, pb2, r2, show ¬ prK K w b = 536870912 by omega, show ¬ R b = 536870912 by omega, e5, e6]
                  exact ih' _
                · by_cases e7 : b < be
                  · have ih' := ihT g (Or.inr e7)
                    simp (disch := (first | assumption | omega | exact Nat.le_of_ble_eq_true rfl | rfl)) only [w259_68, w259_70, w259_72, w259_73, w259_76, w259_77, w259_80, w259_82, w259_83, w259_86, w259_89, w259_90, w259_93, w259_95, w259_96, w259_99, w259_102, w259_103, w259_106, w259_108, w259_109, w259_110, w259_113, w259_115, w259_116, w259_117, w259_118, w259_121, w259_122, w259_123, w259_126, w259_129, w259_131, w259_132, w259_135, w259_137, w259_139, w259_142, w259_144, w259_146, w259_149, Ko_n, Ko_v, vX_i, vX_r, vX_l, vX_j, reduceIte, e1, upA_t, pb2, r2, show ¬ prK K w b = 536870912 by omega, show ¬ R b = 536870912 by omega, e5, e6, show ¬ be ≤ b by omega]
                    exact ih' _
                  · simp (disch := (first | assumption | omega | exact Nat.le_of_ble_eq_true rfl | rfl)) only [w259_68, w259_70, w259_72, w259_73, w259_76, w259_77, w259_80, w259_82, w259_83, w259_86, w259_89, w259_90, w259_93, w259_95, w259_96, w259_99, w259_102, w259_103, w259_106, w259_108, w259_109, w259_110, w259_113, w259_115, w259_116, w259_117, w259_118, w259_121, w259_122, w259_123, w259_126, w259_129, w259_131, w259_132, w259_135, w259_137, w259_139, w259_142, w259_144, Ko_n, Ko_v, vX_i, vX_r, vX_l, vX_j, reduceIte, e1, upA_t, pb2, r2, show ¬ prK K w b = 536870912 by omega, show ¬ R b = 536870912 by omega, e5, e6, show be ≤ b by omega]
                    exact skip (Or.inr (by omega)) _
              · have e5 : ¬ prK K w b + R b = R at_ := by omega
                simp (disch := (first | assumption | omega | exact Nat.le_of_ble_eq_true rfl | rfl)) only [w259_68, w259_70, w259_72, w259_73, w259_76, w259_77, w259_80, w259_82, w259_83, w259_86, w259_89, w259_90, w259_93, w259_95, w259_96, w259_99, w259_102, w259_103, w259_106, w259_108, w259_109, w259_110, w259_113, w259_115, w259_116, w259_117, w259_118, w259_121, w259_122, w259_123, w259_126, w259_129, w259_131, w259_132, w259_135, w259_137, w259_139, w259_142, w259_144, Ko_n, Ko_v, vX_i, vX_r, vX_l, vX_j, reduceIte, e1, upA_t, pb2, r2, show ¬ prK K w b = 536870912 by omega, show ¬ R b = 536870912 by omega, e5]
                exact skip (Or.inl (fun x => e4 (ge.mp x).2)) _
            · have rb := rn b b0.1 b0.2 e2 e3
              simp (disch := (first | assumption | omega | exact Nat.le_of_ble_eq_true rfl | rfl)) only [w259_68, w259_70, w259_72, w259_73, w259_76, w259_77, w259_80, w259_82, w259_83, w259_86, w259_89, w259_90, w259_93, w259_95, w259_96, w259_99, w259_102, w259_103, w259_106, w259_108, w259_109, w259_110, w259_113, w259_115, w259_116, w259_117, w259_118, w259_121, w259_122, w259_123, w259_126, w259_129, w259_131, w259_132, w259_135, w259_137, w259_139, w259_142, w259_144, Ko_n, Ko_v, vX_i, vX_r, vX_l, vX_j, reduceIte, e1, upA_t, pb2, r2, show ¬ prK K w b = 536870912 by omega, rb]
              exact skip (Or.inl (fun x => by have := (ge.mp x).2; omega)) _
    have loop : ∀ (q i : Nat) (P : Int → Int) (l5 l6 l7 : Value), i + q = m → (∀ j : Nat, j ≤ i → P j = pK2 K w t j) → Wp (d + 6) M_X12_laysPath 44 [.ref 382, .int (i32 w), .int (i32 t), .int (i32 (pK2 K w t i)), .int (i32 i), l5, l6, l7] [] (E T (upA τ 1224 382 P)) Q := by
      intro q
      induction q with
      | zero =>
        intro i P l5 l6 l7 hi hp
        have hi : i = m := by omega
        subst hi
        have he : pK2 K w t i = t := hpt'.2.2
        rw [w259_44]
        simp (disch := (first | assumption | omega | exact Nat.le_of_ble_eq_true rfl | rfl)) only [w259_45, w259_46, w259_49, w259_50, w259_52, w259_53, w259_57, w259_58, w259_61, w259_62, w259_63, w259_65, w259_68, w259_70, w259_72, w259_73, w259_76, w259_77, w259_80, w259_82, w259_83, w259_86, w259_89, w259_90, w259_93, w259_95, w259_96, w259_99, w259_102, w259_103, w259_106, w259_108, w259_109, w259_110, w259_113, w259_115, w259_116, w259_117, w259_118, w259_121, w259_122, w259_123, w259_126, w259_129, w259_131, w259_132, w259_135, w259_137, w259_139, w259_142, w259_144, w259_146, w259_149, w259_152, w259_155, w259_156, w259_159, w259_161, w259_163, w259_164, w259_166, w259_167, w259_170, w259_172, Ko_n, Ko_v, vX_i, vX_r, vX_l, vX_j, reduceIte, he]
        exact hq _ (fq_u f2 (by omega)) (by rw [upA_t (by omega)]; exact k2) (fun j hj => by rw [upA_s]; exact hp j hj)
      | succ q ih =>
        intro i P l5 l6 l7 hi hp
        have hne : pK2 K w t i ≠ t := hpt'.2.1 i (by omega)
        have hin := hpt'.1 i (by omega)
        have hin2 : 0 ≤ pK2 K w t i ∧ pK2 K w t i < K 1 * K 2 ∧ yK K w t (pK2 K w t i) < far := hin
        have nx : pK2 K w t (i + 1) = onI (K 1) (K 2) (prK K w) (yK K w t) (pK2 K w t i) 4 := rfl
        have hin3 : 0 ≤ pK2 K w t (i + 1) ∧ pK2 K w t (i + 1) < K 1 * K 2 := ⟨(hpt'.1 (i + 1) (by omega)).1, (hpt'.1 (i + 1) (by omega)).2.1⟩
        rw [w259_44]
        simp (disch := (first | assumption | omega | exact Nat.le_of_ble_eq_true rfl | rfl)) only [w259_45, w259_46, w259_49, w259_50, w259_52, w259_53, Ko_n, Ko_v, vX_i, vX_r, vX_l, vX_j, reduceIte, hne]
        refine inner 4 0 (pK2 K w t i) P i l7 (by omega) hin2.1 hin2.2.1 hin2.2.2 fun l7 => ?_
        rw [← nx]
        simp (disch := (first | assumption | omega | exact Nat.le_of_ble_eq_true rfl | rfl)) only [w259_152, w259_155, w259_156, w259_159, w259_161, w259_163, w259_164, w259_166, w259_167, Ko_n, Ko_v, vX_i, vX_r, vX_l, vX_j, reduceIte, upA_s, upA_upA]
        refine ih (i + 1) _ _ _ _ (by omega) (fun j hj => ?_)
        by_cases ej : j = i + 1
        · rw [ej, show ((i + 1 : Nat) : Int) = (i : Int) + 1 by omega, fu_s]
        · rw [fu_n (by omega)]; exact hp j (by omega)
    simp (disch := (first | assumption | omega | exact Nat.le_of_ble_eq_true rfl | rfl)) only [w259_10, w259_11, w259_14, w259_16, w259_17, w259_18, w259_19, w259_20, w259_21, w259_24, w259_25, w259_26, w259_29, w259_32, w259_33, w259_34, w259_35, w259_37, w259_38, w259_41, w259_42, w259_43, Ko_n, Ko_v, vX_i, vX_r, vX_l, vX_j, reduceIte, k2, r2, show ¬ R (K (79 + w)) = 536870912 by omega, not_false_eq_true]
    have l0 := loop m 0 (fu (τ 1224 382) 0 (K (79 + w))) vmJ vmJ vmJ (by omega) (fun j hj => by rw [show j = 0 by omega]; exact fu_s)
    exact l0
  · have rna := rn _ h6.1 h6.2 ac ya
    simp (disch := (first | assumption | omega | exact Nat.le_of_ble_eq_true rfl | rfl)) only [w259_10, w259_11, w259_14, w259_16, w259_17, w259_18, w259_19, w259_20, w259_21, w259_24, w259_25, w259_26, w259_29, w259_32, w259_33, w259_34, w259_35, w259_37, w259_38, w259_41, w259_42, w259_43, Ko_n, Ko_v, vX_i, vX_r, vX_l, vX_j, reduceIte, k2, r2, rna, not_true]
    exact hQ1 ya _ f2 k2
theorem c260 {d : Nat} {k w t i B : Int} {K : Int → Int} {T : Tt} {σ : St} {Q : vmO → vmH → Prop} (hK : σ 1200 382 = K) (hv : kV K B) (hB : B < 900000000) (x0 : -2147483648 ≤ w) (x1 : w < 2147483648) (y0 : -2147483648 ≤ t) (y1 : t < 2147483648) (u0 : -2147483648 ≤ i) (u1 : i < 2147483648)
    (hQ1 : ¬ wzI K w t → ∀ τ, fT σ τ → τ 1200 382 = K → τ 1204 382 0 = 1 → Q (.inl (some (.int (i32 0)))) (E T τ))
    (hQ2 : wzI K w t → ¬ yK K w t (K (79 + w)) < far → ∀ τ, fT σ τ → τ 1200 382 = K → τ 1204 382 0 = 0 → Q (.inl (some (.int (i32 (-1))))) (E T τ))
    (hQ3 : wzI K w t → yK K w t (K (79 + w)) < far → ∀ m : Nat, m ≤ 35 → ptK (K 1) (K 2) (prK K w) (yK K w t) (K (79 + w)) t m → ∀ τ, fT σ τ → τ 1200 382 = K → τ 1204 382 0 = 0 → Q (.inl (some (.int (i32 (wyA m (pK2 K w t) i))))) (E T τ)) : Ca (d + 7) k 260 [.ref 382, .int (i32 w), .int (i32 t), .int (i32 i)] (E T σ) Q := by
  have h0 := ob_md
  have kU : ∀ u, (upA σ 1204 382 fun _ => u) 1200 382 = K := fun u => by rw [upA_t (by omega)]; exact hK
  have fU : ∀ u, fT σ (upA σ 1204 382 fun _ => u) := fun u => fT_u fT_r (by omega)
  have sU : ∀ u, (upA σ 1204 382 fun _ => u) 1204 382 0 = u := fun u => by rw [upA_s]
  rw [n260 _ _ _ _ _ _ _ _ _ h0]
  simp (disch := (first | assumption | omega | exact Nat.le_of_ble_eq_true rfl | rfl)) only [w260_0, w260_1, w260_2, w260_3, Ko_n, Ko_v, vX_i, vX_r, vX_l, vX_j, reduceIte]
  refine c237 hK hv x0 x1 y0 y1 (fun a => ?_) (fun a => ?_)
  · simp (disch := (first | assumption | omega | exact Nat.le_of_ble_eq_true rfl | rfl)) only [w260_6, w260_9, w260_10, w260_11, w260_12, w260_13, w260_14, Ko_n, Ko_v, vX_i, vX_r, vX_l, vX_j, reduceIte]
    refine c259 (kU 0) hv hB a.1.1 a.1.2 a.2.1 a.2.2 (fun e τ g1 g2 => ?_) (fun e m m35 hpt τ g1 g2 g3 => ?_)
    · have ft := fT_q g1
      have hq := hQ2 a e τ ft.1 g2 ft.2
      by_cases b : i = -1
      · simp (disch := (first | assumption | omega | exact Nat.le_of_ble_eq_true rfl | rfl)) only [w260_17, w260_19, w260_20, w260_21, w260_24, w260_26, w260_29, w260_30, w260_31, w260_32, w260_34, w260_35, w260_38, w260_41, w260_42, w260_45, w260_46, w260_47, w260_50, w260_51, Ko_n, Ko_v, vX_i, vX_r, vX_l, vX_j, reduceIte, b, not_true]
        exact hq
      · simp (disch := (first | assumption | omega | exact Nat.le_of_ble_eq_true rfl | rfl)) only [w260_17, w260_19, w260_20, w260_21, w260_24, w260_26, w260_29, w260_30, w260_31, w260_32, w260_34, w260_35, Ko_n, Ko_v, vX_i, vX_r, vX_l, vX_j, reduceIte, b, not_false_eq_true]
        rw [c176 (by omega) (by omega) (by omega) (by omega) (by omega) (by omega) (by omega), if_neg (by omega)]
        simp (disch := (first | assumption | omega | exact Nat.le_of_ble_eq_true rfl | rfl)) only [w260_38, w260_41, w260_42, w260_45, w260_46, w260_47, w260_50, w260_51, Ko_n, Ko_v, vX_i, vX_r, vX_l, vX_j, reduceIte]
        exact hq
    · have ft := fT_q g1
      have hq := hQ3 a e m m35 hpt τ ft.1 g2 ft.2
      unfold wyA at hq
      by_cases b : i = -1
      · rw [if_pos b] at hq
        simp (disch := (first | assumption | omega | exact Nat.le_of_ble_eq_true rfl | rfl)) only [w260_17, w260_19, w260_20, w260_21, w260_24, w260_26, w260_29, w260_30, w260_31, w260_32, w260_34, w260_35, w260_38, w260_41, w260_42, w260_45, w260_46, w260_47, w260_50, w260_51, Ko_n, Ko_v, vX_i, vX_r, vX_l, vX_j, reduceIte, b, not_true]
        exact hq
      · rw [if_neg b] at hq
        simp (disch := (first | assumption | omega | exact Nat.le_of_ble_eq_true rfl | rfl)) only [w260_17, w260_19, w260_20, w260_21, w260_24, w260_26, w260_29, w260_30, w260_31, w260_32, w260_34, w260_35, Ko_n, Ko_v, vX_i, vX_r, vX_l, vX_j, reduceIte, b, not_false_eq_true]
        rw [c176 (by omega) (by omega) (by omega) (by omega) (by omega) (by omega) (by omega)]
        by_cases b2 : 0 ≤ i ∧ i ≤ m
        · rw [if_pos b2] at hq ⊢
          have pv := g3 i.toNat (by omega)
          rw [show ((i.toNat : Nat) : Int) = i by omega] at pv
          simp (disch := (first | assumption | omega | exact Nat.le_of_ble_eq_true rfl | rfl)) only [w260_38, w260_41, w260_42, w260_45, w260_46, w260_47, w260_50, w260_51, Ko_n, Ko_v, vX_i, vX_r, vX_l, vX_j, reduceIte, Int.reduceEq, pv]
          exact hq
        · rw [if_neg b2] at hq ⊢
          simp (disch := (first | assumption | omega | exact Nat.le_of_ble_eq_true rfl | rfl)) only [w260_38, w260_41, w260_42, w260_45, w260_46, w260_47, w260_50, w260_51, Ko_n, Ko_v, vX_i, vX_r, vX_l, vX_j, reduceIte]
          exact hq
  · simp (disch := (first | assumption | omega | exact Nat.le_of_ble_eq_true rfl | rfl)) only [w260_6, w260_9, w260_10, w260_11, w260_12, w260_13, w260_14, w260_17, w260_19, Ko_n, Ko_v, vX_i, vX_r, vX_l, vX_j, reduceIte, Int.reduceEq]
    exact hQ1 a _ (fU _) (kU _) (sU _)
