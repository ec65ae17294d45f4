/-! ===== the reference: ways ===== -/
theorem c261 {d : Nat} {k w z B : Int} {K : Int → Int} {T : Tt} {σ : St} {Q : vmO → vmH → Prop} (hK : σ 1200 382 = K) (hv : kV K B) (hB : B < 900000000) (x0 : -2147483648 ≤ w) (x1 : w < 2147483648) (y0 : -2147483648 ≤ z) (y1 : z < 2147483648)
    (hQ1 : ¬ wzI K w z → ∀ τ, fT σ τ → τ 1200 382 = K → τ 1204 382 0 = 1 → Q (.inl (some (.long (i64 0)))) (E T τ))
    (hQ2 : wzI K w z → ∀ M, wyC (K 1) (K 2) (prK K w) (dK K w) (K (79 + w)) M → ∀ τ, fT σ τ → τ 1200 382 = K → τ 1204 382 0 = 0 → Q (.inl (some (.long (M z)))) (E T τ)) : Ca (d + 6) k 261 [.ref 382, .int (i32 w), .int (i32 z)] (E T σ) Q := by
  have h0 := ob_md
  have hfar : far = 1000000000 := rfl
  have hhi : hiR = 536870912 := rfl
  have hn := nK_c hv.1
  have kU : ∀ u, (upA σ 1204 382 fun _ => u) 1200 382 = K := fun u => by rw [upA_t (by omega)]; exact hK
  have fU : ∀ u, fT σ (upA σ 1204 382 fun _ => u) := fun u => fT_u fT_r (by omega)
  have sU : ∀ u, (upA σ 1204 382 fun _ => u) 1204 382 0 = u := fun u => by rw [upA_s]
  rw [n261 _ _ _ _ _ _ _ _ h0]
  simp (disch := (first | assumption | omega | exact Nat.le_of_ble_eq_true rfl | rfl)) only [w261_0, w261_1, w261_2, w261_3, Ko_n, Ko_v, vX_i, vX_r, vX_l, vX_j, reduceIte]
  refine c237 hK hv x0 x1 y0 y1 (fun a => ?_) (fun a => ?_)
  · have hq := hQ2 a
    obtain ⟨⟨w0, w1⟩, z0, z1⟩ := a
    obtain ⟨h2, h5, h6, h7⟩ := kV_w hv w0 w1
    have hm := wh_mul h2
    have hc := prK_cs (w := w) hv.1 hv.2.1
    have ac : prK K w (K (79 + w)) ≠ -1 := fun e => h7 ((prK_w hv.2.1 h6.1 (by omega)).mp e)
    have yb : ∀ z, 0 ≤ z → z < K 1 * K 2 → (0 ≤ dK K w z ∧ dK K w z ≤ 6516) ∨ dK K w z = far := fun z z0 z1 => dK_b hv w0 w1 z0 z1
    have yw : ∀ z, 0 ≤ z → z < K 1 * K 2 → dK K w z < far → prK K w z ≠ -1 := fun z z0 z1 hf => dD_nw h2 hc hn z0 z1 hf
    have y0' : dK K w (K (79 + w)) = 0 := dD_0 h2 hc hn h6.1 h6.2 ac
    simp (disch := (first | assumption | omega | exact Nat.le_of_ble_eq_true rfl | rfl)) only [w261_6, w261_9, w261_10, w261_11, w261_12, w261_13, Ko_n, Ko_v, vX_i, vX_r, vX_l, vX_j, reduceIte]
    refine c234 (kU 0) hv hB w0 w1 fun τ g1 g2 ⟨g3, g4⟩ => ?_
    have kG : ∀ G, (upA τ 1225 382 G) 1200 382 = K := fun G => by rw [upA_t (by omega)]; exact g2
    have pG : ∀ G z, 0 ≤ z → z < K 1 * K 2 → (upA τ 1225 382 G) 1219 382 z = rp (prK K w z) := fun G z z0 z1 => by rw [upA_t (by omega)]; exact g3 z z0 z1
    have dG : ∀ G z, 0 ≤ z → z < K 1 * K 2 → (upA τ 1225 382 G) 1220 382 z = rf (dK K w z) := fun G z z0 z1 => by rw [upA_t (by omega)]; exact g4 z z0 z1
    have fin : ∀ (G : Int → Int) (p : Int → Bool) (l3 l5 l6 l7 l8 : Value), (∀ z, 0 ≤ z → z < K 1 * K 2 → dK K w z < far → p z = true) → (∀ z, 0 ≤ z → z < K 1 * K 2 → prK K w z ≠ -1 → i64 (G z) = (if z = K (79 + w) then i64 1 else i64 0) + mS (K 1) (K 2) (prK K w) (dK K w) (fun k => if p k then i64 (G k) else i64 0) z 4) → (∀ z, 0 ≤ z → z < K 1 * K 2 → prK K w z = -1 → i64 (G z) = i64 0) → Wp (d + 6) M_X12_ways 189 [.ref 382, .int (i32 w), .int (i32 z), l3, vmJ, l5, l6, l7, l8] [] (E T (upA τ 1225 382 G)) Q := by
      intro G p l3 l5 l6 l7 l8 a1 a2 a3
      have q := hq (fun k => i64 (G k)) (wyI_e h2 hc yb yw (by rw [y0']; omega) a1 a2 a3) _ (fT_q (fq_u (f := G) g1 (show _ by omega))).1 (kG G) (fT_q (fq_u (f := G) g1 (show _ by omega))).2
      simp (disch := (first | assumption | omega | exact Nat.le_of_ble_eq_true rfl | rfl)) only [w261_189, w261_190, w261_193, w261_194, w261_195, Ko_n, Ko_v, vX_i, vX_r, vX_l, vX_j, reduceIte, upA_s]
      exact q
    have inner : ∀ (q e : Nat) (at_ : Int) (G Ge : Int → Int) (n : Int) (l3 l8 : Value) , e + q = 4 → 0 ≤ at_ → at_ < K 1 * K 2 → dK K w at_ < far → (∀ z, 0 ≤ z → z < K 1 * K 2 → i64 (Ge z) = i64 (G z) + if jr2 (K 1) (K 2) at_ z e = true ∧ prK K w z ≠ -1 ∧ dK K w at_ + prK K w z = dK K w z then i64 (G at_) else i64 0) → (∀ (G' : Int → Int) (l7 l8 : Value), (∀ z, 0 ≤ z → z < K 1 * K 2 → i64 (G' z) = i64 (G z) + if jr2 (K 1) (K 2) at_ z 4 = true ∧ prK K w z ≠ -1 ∧ dK K w at_ + prK K w z = dK K w z then i64 (G at_) else i64 0) → Wp (d + 6) M_X12_ways 183 [.ref 382, .int (i32 w), .int (i32 z), l3, vmJ, .int (i32 n), .int (i32 at_), l7, l8] [] (E T (upA τ 1225 382 G')) Q) → Wp (d + 6) M_X12_ways 100 [.ref 382, .int (i32 w), .int (i32 z), l3, vmJ, .int (i32 n), .int (i32 at_), .int (i32 e), l8] [] (E T (upA τ 1225 382 Ge)) Q := by
      intro q
      induction q with
      | zero =>
        intro e at_ G Ge n l3 l8 he a0 a1 af hg hk
        have he : e = 4 := by omega
        subst he
        have hk' := hk Ge (.int (i32 ((4 : Nat) : Int))) l8 hg
        rw [w261_100]
        simp (disch := (first | assumption | omega | exact Nat.le_of_ble_eq_true rfl | rfl)) only [w261_102, w261_103, w261_106, w261_107, w261_109, w261_111, w261_114, w261_116, w261_118, w261_119, w261_122, w261_123, w261_126, w261_128, w261_129, w261_132, w261_135, w261_136, w261_139, w261_141, w261_142, w261_143, w261_146, w261_148, w261_149, w261_150, w261_151, w261_154, w261_156, w261_157, w261_160, w261_161, w261_164, w261_166, w261_167, w261_168, w261_169, w261_172, w261_174, w261_175, w261_176, w261_177, w261_180, Ko_n, Ko_v, vX_i, vX_r, vX_l, vX_j, reduceIte, show (4 : Int) ≤ ((4 : Nat) : Int) by omega]
        exact hk'
      | succ q ih =>
        intro e at_ G Ge n l3 l8 he a0 a1 af hg hk
        have ih' := fun Ge l8 => ih (e + 1) at_ G Ge n l3 l8 (by omega) a0 a1 af
        rw [show ((e + 1 : Nat) : Int) = (e : Int) + 1 by omega] at ih'
        have jE : ∀ z, jr2 (K 1) (K 2) at_ z (e + 1) = (jr2 (K 1) (K 2) at_ z e || decide (bsC (K 1) (K 2) at_ e = z)) := fun z => rfl
        have hb := bsC_in (e := (e : Int)) h2 a0 a1
        have skip : (¬ bsC (K 1) (K 2) at_ e = -1 → ¬ (prK K w (bsC (K 1) (K 2) at_ e) ≠ -1 ∧ dK K w at_ + prK K w (bsC (K 1) (K 2) at_ e) = dK K w (bsC (K 1) (K 2) at_ e))) → ∀ l8, Wp (d + 6) M_X12_ways 177 [.ref 382, .int (i32 w), .int (i32 z), l3, vmJ, .int (i32 n), .int (i32 at_), .int (i32 e), l8] [] (E T (upA τ 1225 382 Ge)) Q := by
          intro hno l8
          have i2 := ih' Ge l8 (fun y y0 y1 => by
            rw [hg y y0 y1, jE]
            by_cases ey : bsC (K 1) (K 2) at_ e = y
            · have no := hno (by omega)
              rw [ey] at no
              rw [if_neg (fun t => no t.2), if_neg (fun t => no t.2)]
            · rw [decide_eq_false ey, Bool.or_false]) hk
          simp (disch := (first | assumption | omega | exact Nat.le_of_ble_eq_true rfl | rfl)) only [w261_177, w261_180, Ko_n, Ko_v, vX_i, vX_r, vX_l, vX_j, reduceIte]
          exact i2
        rw [w261_100]
        simp (disch := (first | assumption | omega | exact Nat.le_of_ble_eq_true rfl | rfl)) only [w261_102, w261_103, w261_106, w261_107, w261_109, w261_111, Ko_n, Ko_v, vX_i, vX_r, vX_l, vX_j, reduceIte, show ¬ (4 : Int) ≤ (e : Int) by omega]
        rw [c219 (kG Ge) h2 a0 a1 (by omega) (by omega)]
        by_cases e1 : bsC (K 1) (K 2) at_ e = -1
        · simp (disch := (first | assumption | omega | exact Nat.le_of_ble_eq_true rfl | rfl)) only [w261_114, w261_116, w261_118, w261_119, w261_122, w261_123, w261_126, w261_128, w261_129, w261_132, w261_135, w261_136, w261_139, w261_141, w261_142, w261_143, w261_146, w261_148, w261_149, w261_150, w261_151, w261_154, w261_156, w261_157, w261_160, w261_161, w261_164, w261_166, w261_167, w261_168, w261_169, w261_172, w261_174, w261_175, w261_176, Ko_n, Ko_v, vX_i, vX_r, vX_l, vX_j, reduceIte, e1]
          exact skip (fun t => absurd e1 t) _
        · have b0 : 0 ≤ bsC (K 1) (K 2) at_ e ∧ bsC (K 1) (K 2) at_ e < K 1 * K 2 := by omega
          have jb : ¬ jr2 (K 1) (K 2) at_ (bsC (K 1) (K 2) at_ e) e = true := by
            rw [jr2_iff]
            rintro ⟨d', hd, he'⟩
            have r := rdq_in d'
            have r2 := rdq_in e
            have := rdq_inj (d := d') (e := e) (by omega) (by omega) (nb_inj h2 r.1 r.2 r2.1 r2.2 (by show bsC (K 1) (K 2) at_ d' ≠ -1; rw [he']; exact e1) he')
            omega
          generalize bsC (K 1) (K 2) at_ e = b at hb b0 jb jE skip e1 ⊢
          have pb := pG Ge b b0.1 b0.2
          have db := dG Ge b b0.1 b0.2
          have da := dG Ge at_ a0 a1
          rw [show rf (dK K w at_) = dK K w at_ from if_pos af] at da
          have cb := hc b b0.1 b0.2
          have ca := hc at_ a0 a1
          have yba := yb at_ a0 a1
          have ybb := yb b b0.1 b0.2
          by_cases e2 : prK K w b = -1
          · have pb2 : (upA τ 1225 382 Ge) 1219 382 b = 536870912 := by rw [pb]; unfold rp; rw [if_pos e2]; rfl
            simp (disch := (first | assumption | omega | exact Nat.le_of_ble_eq_true rfl | rfl)) only [w261_114, w261_116, w261_118, w261_119, w261_122, w261_123, w261_126, w261_128, w261_129, w261_132, w261_135, w261_136, w261_139, w261_141, w261_142, w261_143, w261_146, w261_148, w261_149, w261_150, w261_151, w261_154, w261_156, w261_157, w261_160, w261_161, w261_164, w261_166, w261_167, w261_168, w261_169, w261_172, w261_174, w261_175, w261_176, Ko_n, Ko_v, vX_i, vX_r, vX_l, vX_j, reduceIte, e1, pb2, Int.le_refl]
            exact skip (fun _ t => t.1 e2) _
          · have pb2 : (upA τ 1225 382 Ge) 1219 382 b = prK K w b := by rw [pb]; unfold rp; rw [if_neg e2]
            have rb : rf (dK K w b) = if dK K w b < far then dK K w b else 536870912 := rfl
            by_cases e3 : dK K w at_ + prK K w b = dK K w b
            · rw [if_pos (by omega)] at rb
              rw [rb] at db
              have ga : i64 (Ge at_) = i64 (G at_) := by
                rw [hg at_ a0 a1, if_neg (fun t => by have := t.2.2; omega)]
                exact Int64.add_zero _
              have i2 := ih' (fu Ge b (i64 (Ge b) + i64 (Ge at_)).toInt) (.int (i32 b)) (fun y y0 y1 => by
                rw [jE]
                by_cases ey : y = b
                · rw [ey, fu_s, i64_toInt, hg b b0.1 b0.2, if_neg (fun t => jb t.1), if_pos ⟨by rw [decide_eq_true rfl, Bool.or_true], e2, e3⟩, ga]
                  congr 1
                  exact Int64.add_zero _
                · rw [fu_n ey, hg y y0 y1, decide_eq_false (fun t => ey t.symm), Bool.or_false]) hk
              simp (disch := (first | assumption | omega | exact Nat.le_of_ble_eq_true rfl | rfl)) only [w261_114, w261_116, w261_118, w261_119, w261_122, w261_123, w261_126, w261_128, w261_129, w261_132, w261_135, w261_136, w261_139, w261_141, w261_142, w261_143, w261_146, w261_148, w261_149, w261_150, w261_151, w261_154, w261_156, w261_157, w261_160, w261_161, w261_164, w261_166, w261_167, w261_168, w261_169, w261_172, w261_174, w261_175, w261_176, w261_177, w261_180, Ko_n, Ko_v, vX_i, vX_r, vX_l, vX_j, reduceIte, e1, pb2, da, db, e3, show ¬ (536870912 : Int) ≤ prK K w b by omega, upA_s, upA_upA]
              exact i2
            · have e4 : ¬ dK K w at_ + prK K w b = rf (dK K w b) := by
                rw [rb]
                by_cases x : dK K w b < far
                · rw [if_pos x]; exact e3
                · rw [if_neg x]; omega
              simp (disch := (first | assumption | omega | exact Nat.le_of_ble_eq_true rfl | rfl)) only [w261_114, w261_116, w261_118, w261_119, w261_122, w261_123, w261_126, w261_128, w261_129, w261_132, w261_135, w261_136, w261_139, w261_141, w261_142, w261_143, w261_146, w261_148, w261_149, w261_150, w261_151, w261_154, w261_156, w261_157, w261_160, w261_161, w261_164, w261_166, w261_167, w261_168, w261_169, w261_172, w261_174, w261_175, w261_176, Ko_n, Ko_v, vX_i, vX_r, vX_l, vX_j, reduceIte, e1, pb2, da, db, e4, show ¬ (536870912 : Int) ≤ prK K w b by omega]
              exact skip (fun _ t => e3 t.2) _
    have outer : ∀ (m n : Nat) (p : Int → Bool) (G : Int → Int) (l6 l7 l8 : Value), n + m = nK K → cnt p (nK K) = n → (∀ z, 0 ≤ z → z < K 1 * K 2 → p z = true → dK K w z < far) → (∀ z z', 0 ≤ z → z < K 1 * K 2 → 0 ≤ z' → z' < K 1 * K 2 → p z = true → p z' = false → dK K w z ≤ dK K w z') → (∀ z, 0 ≤ z → z < K 1 * K 2 → prK K w z ≠ -1 → i64 (G z) = (if z = K (79 + w) then i64 1 else i64 0) + mS (K 1) (K 2) (prK K w) (dK K w) (fun k => if p k then i64 (G k) else i64 0) z 4) → (∀ z, 0 ≤ z → z < K 1 * K 2 → prK K w z = -1 → i64 (G z) = i64 0) → Wp (d + 6) M_X12_ways 65 [.ref 382, .int (i32 w), .int (i32 z), .long (bs p), vmJ, .int (i32 n), l6, l7, l8] [] (E T (upA τ 1225 382 G)) Q := by
      intro m
      induction m with
      | zero =>
        intro n p G l6 l7 l8 hn2 hcn a1 a2 a3 a4
        have hn2 : n = nK K := by omega
        subst hn2
        have f := fin G p (.long (bs p)) (.int (i32 ((nK K : Nat) : Int))) l6 l7 l8 (fun y y0 y1 _ => by
          have := cnt_all hcn y.toNat (by omega)
          rw [show ((y.toNat : Nat) : Int) = y by omega] at this
          exact this) a3 a4
        rw [hn] at f
        rw [w261_65]
        simp (disch := (first | assumption | omega | exact Nat.le_of_ble_eq_true rfl | rfl)) only [w261_67, w261_68, Ko_n, Ko_v, vX_i, vX_r, vX_l, vX_j, reduceIte]
        rw [c210 (kG G)]
        simp (disch := (first | assumption | omega | exact Nat.le_of_ble_eq_true rfl | rfl)) only [w261_71, w261_74, w261_75, w261_76, w261_79, w261_81, w261_83, w261_84, w261_87, w261_90, w261_91, w261_92, w261_94, w261_95, w261_96, w261_97, w261_98, w261_102, w261_103, w261_106, w261_107, w261_109, w261_111, w261_114, w261_116, w261_118, w261_119, w261_122, w261_123, w261_126, w261_128, w261_129, w261_132, w261_135, w261_136, w261_139, w261_141, w261_142, w261_143, w261_146, w261_148, w261_149, w261_150, w261_151, w261_154, w261_156, w261_157, w261_160, w261_161, w261_164, w261_166, w261_167, w261_168, w261_169, w261_172, w261_174, w261_175, w261_176, w261_177, w261_180, w261_183, w261_186, Ko_n, Ko_v, vX_i, vX_r, vX_l, vX_j, reduceIte, hn, Int.le_refl]
        exact f
      | succ m ih =>
        intro n p G l6 l7 l8 hn2 hcn a1 a2 a3 a4
        rw [w261_65]
        simp (disch := (first | assumption | omega | exact Nat.le_of_ble_eq_true rfl | rfl)) only [w261_67, w261_68, Ko_n, Ko_v, vX_i, vX_r, vX_l, vX_j, reduceIte]
        rw [c210 (kG G)]
        simp (disch := (first | assumption | omega | exact Nat.le_of_ble_eq_true rfl | rfl)) only [w261_71, w261_74, w261_75, w261_76, Ko_n, Ko_v, vX_i, vX_r, vX_l, vX_j, reduceIte, show ¬ K 1 * K 2 ≤ (n : Int) by omega]
        rw [c262 (kG G) hv yb (dG G)]
        rcases nrR_ok (f := dK K w) (p := p) (nK K) with ⟨r1, r2⟩ | ⟨r1, r2, r3, r4⟩
        · have f := fin G p (.long (bs p)) (.int (i32 n)) (.int (i32 (-1))) l7 l8 (fun y y0 y1 yf => by
            cases ep : p y with
            | true => rfl
            | false => exact absurd yf (r2 y y0 (by omega) ep)) a3 a4
          rw [r1]
          simp (disch := (first | assumption | omega | exact Nat.le_of_ble_eq_true rfl | rfl)) only [w261_79, w261_81, w261_83, w261_84, w261_87, w261_90, w261_91, w261_92, w261_94, w261_95, w261_96, w261_97, w261_98, w261_102, w261_103, w261_106, w261_107, w261_109, w261_111, w261_114, w261_116, w261_118, w261_119, w261_122, w261_123, w261_126, w261_128, w261_129, w261_132, w261_135, w261_136, w261_139, w261_141, w261_142, w261_143, w261_146, w261_148, w261_149, w261_150, w261_151, w261_154, w261_156, w261_157, w261_160, w261_161, w261_164, w261_166, w261_167, w261_168, w261_169, w261_172, w261_174, w261_175, w261_176, w261_177, w261_180, w261_183, w261_186, Ko_n, Ko_v, vX_i, vX_r, vX_l, vX_j, reduceIte, not_true]
          exact f
        · generalize nrR (dK K w) p (nK K) = b at r1 r2 r3 r4 ⊢
          have b0 : 0 ≤ b ∧ b < K 1 * K 2 := by omega
          have add := bs_add (p := p) b0.1 (show b < 64 by omega)
          simp (disch := (first | assumption | omega | exact Nat.le_of_ble_eq_true rfl | rfl)) only [w261_79, w261_81, w261_83, w261_84, w261_87, w261_90, w261_91, w261_92, w261_94, w261_95, w261_96, w261_97, w261_98, Ko_n, Ko_v, vX_i, vX_r, vX_l, vX_j, reduceIte, show ¬ b = -1 by omega, not_false_eq_true, add]
          refine inner 4 0 b G G n _ _ (by omega) b0.1 b0.2 r3 (fun y y0 y1 => ?_) (fun G' l7 l8 hG => ?_)
          · rw [if_neg (fun t => Bool.noConfusion t.1)]
            exact (Int64.add_zero _).symm
          · have s := ih (n + 1) (fun k => p k || decide (k = b)) G' (.int (i32 b)) l7 l8 (by omega) (by rw [cnt_add r2, if_pos (by omega), hcn]; omega)
              (fun y y0 y1 hy => by
                rw [Bool.or_eq_true, decide_eq_true_iff] at hy
                rcases hy with hy | hy
                · exact a1 y y0 y1 hy
                · rw [hy]; exact r3)
              (fun y y' y0 y1 y0' y1' hy hy' => by
                rw [Bool.or_eq_true, decide_eq_true_iff] at hy
                rw [Bool.or_eq_false_iff] at hy'
                rcases hy with hy | hy
                · exact a2 y y' y0 y1 y0' y1' hy hy'.1
                · rw [hy]; exact r4 y' y0' (by omega) hy'.1)
              (wyI_s (M := fun k => i64 (G k)) (M' := fun k => i64 (G' k)) h2 hc b0.1 b0.2 r2 (fun y y0 y1 hy => ⟨a2 y b y0 y1 b0.1 b0.2 hy r2, yw y y0 y1 (a1 y y0 y1 hy)⟩) (yw b b0.1 b0.2 r3) a3 hG)
              (fun y y0 y1 hy => by
                rw [hG y y0 y1, if_neg (fun t => t.2.1 hy), a4 y y0 y1 hy]
                rfl)
            rw [show ((n + 1 : Nat) : Int) = (n : Int) + 1 by omega] at s
            simp (disch := (first | assumption | omega | exact Nat.le_of_ble_eq_true rfl | rfl)) only [w261_183, w261_186, Ko_n, Ko_v, vX_i, vX_r, vX_l, vX_j, reduceIte]
            exact s
    have init : ∀ (m n : Nat) (G : Int → Int), n + m = nK K → (∀ j : Nat, j < n → i64 (G j) = if (j : Int) = K (79 + w) then i64 1 else i64 0) → Wp (d + 6) M_X12_ways 21 [.ref 382, .int (i32 w), .int (i32 z), .long (i64 0), vmJ, .int (i32 n), vmJ, vmJ, vmJ] [] (E T (upA τ 1225 382 G)) Q := by
      intro m
      induction m with
      | zero =>
        intro n G hn2 hg
        have hn2 : n = nK K := by omega
        subst hn2
        have hg2 : ∀ y : Int, 0 ≤ y → y < K 1 * K 2 → i64 (G y) = if y = K (79 + w) then i64 1 else i64 0 := fun y y0 y1 => by
          have := hg y.toNat (by omega)
          rw [show ((y.toNat : Nat) : Int) = y by omega] at this
          exact this
        have o := outer (nK K) 0 (fun _ => false) G vmJ vmJ vmJ (by omega) (by
            have : ∀ n : Nat, cnt (fun _ => false) n = 0 := by
              intro n
              induction n with
              | zero => rfl
              | succ n ih => show cnt (fun _ => false) n + 0 = 0; rw [ih]; rfl
            rw [this]; rfl) (fun y _ _ h => Bool.noConfusion h) (fun y _ _ _ _ _ h => Bool.noConfusion h) (fun y y0 y1 _ => by
            rw [hg2 y y0 y1, show (fun k : Int => if (fun _ : Int => false) k = true then i64 (G k) else i64 0) = fun _ => i64 0 from rfl, mS_00]
            exact (Int64.add_zero _).symm) (fun y y0 y1 hy => by rw [hg2 y y0 y1, if_neg (fun e : y = K (79 + w) => ac (by rw [← e]; exact hy))])
        rw [← bs_none] at o
        rw [w261_21]
        simp (disch := (first | assumption | omega | exact Nat.le_of_ble_eq_true rfl | rfl)) only [w261_23, w261_24, Ko_n, Ko_v, vX_i, vX_r, vX_l, vX_j, reduceIte]
        rw [c210 (kG G)]
        simp (disch := (first | assumption | omega | exact Nat.le_of_ble_eq_true rfl | rfl)) only [w261_27, w261_30, w261_31, w261_34, w261_36, w261_38, w261_39, w261_42, w261_44, w261_45, w261_46, w261_47, w261_50, w261_51, w261_54, w261_55, w261_56, w261_59, w261_62, w261_63, Ko_n, Ko_v, vX_i, vX_r, vX_l, vX_j, reduceIte, hn, Int.le_refl]
        exact o
      | succ m ih =>
        intro n G hn2 hg
        have ih' := fun v => ih (n + 1) (fu G n v) (by omega)
        rw [show ((n + 1 : Nat) : Int) = (n : Int) + 1 by omega] at ih'
        have st : ∀ v : Int64, v = (if (n : Int) = K (79 + w) then i64 1 else i64 0) → ∀ j : Nat, j < n + 1 → i64 (fu G n v.toInt j) = if (j : Int) = K (79 + w) then i64 1 else i64 0 := by
          intro v hv' j hj
          by_cases ej : j = n
          · rw [ej, fu_s, i64_toInt]; exact hv'
          · rw [fu_n (by omega)]; exact hg j (by omega)
        rw [w261_21]
        simp (disch := (first | assumption | omega | exact Nat.le_of_ble_eq_true rfl | rfl)) only [w261_23, w261_24, Ko_n, Ko_v, vX_i, vX_r, vX_l, vX_j, reduceIte]
        rw [c210 (kG G)]
        by_cases e : (n : Int) = K (79 + w)
        · simp (disch := (first | assumption | omega | exact Nat.le_of_ble_eq_true rfl | rfl)) only [w261_27, w261_30, w261_31, w261_34, w261_36, w261_38, w261_39, w261_42, w261_44, w261_45, w261_46, w261_47, w261_50, w261_51, w261_54, w261_55, w261_56, w261_59, Ko_n, Ko_v, vX_i, vX_r, vX_l, vX_j, reduceIte, show ¬ K 1 * K 2 ≤ (n : Int) by omega, upA_t, g2, e, not_true, upA_s, upA_upA, show ¬ K 1 * K 2 ≤ K (79 + w) by omega]
          have i2 := ih' (i64 1).toInt (st (i64 1) (by rw [if_pos e]))
          rw [e] at i2
          exact i2
        · simp (disch := (first | assumption | omega | exact Nat.le_of_ble_eq_true rfl | rfl)) only [w261_27, w261_30, w261_31, w261_34, w261_36, w261_38, w261_39, w261_42, w261_44, w261_45, w261_46, w261_47, w261_50, w261_51, w261_54, w261_55, w261_56, w261_59, Ko_n, Ko_v, vX_i, vX_r, vX_l, vX_j, reduceIte, show ¬ K 1 * K 2 ≤ (n : Int) by omega, upA_t, g2, e, not_false_eq_true, upA_s, upA_upA]
          exact ih' (i64 0).toInt (st (i64 0) (by rw [if_neg e]))
    have i0 := init (nK K) 0 (τ 1225 382) (by omega) (fun j hj => by omega)
    rw [upA_self] at i0
    simp (disch := (first | assumption | omega | exact Nat.le_of_ble_eq_true rfl | rfl)) only [w261_16, w261_17, w261_18, w261_19, Ko_n, Ko_v, vX_i, vX_r, vX_l, vX_j, reduceIte]
    exact i0
  · simp (disch := (first | assumption | omega | exact Nat.le_of_ble_eq_true rfl | rfl)) only [w261_6, w261_9, w261_10, Ko_n, Ko_v, vX_i, vX_r, vX_l, vX_j, reduceIte, Int.reduceEq]
    exact hQ1 a _ (fU _) (kU _) (sU _)
