/-! ===== the reference: goesRound, round ===== -/
def lgK (K : Int → Int) (w : Int) : Int → Int := fun j => dD (K 1) (K 2) (prK K w) (fromI (K (79 + w)) (fun e => K (98 + 4 * w + e)) (j / 4)) (nK K) (K (98 + 4 * w + j % 4))
def duK (K : Int → Int) (w : Int) : Int → Int := fun e => K (118 + 4 * w + e)
def rdK (K : Int → Int) (w : Int) (o : Int → Int) (n : Nat) : Rd := rdI (lgK K w) (duK K w) (K 89) o n
def fr72 (σ τ : St) : Prop := ∀ t o, t ≠ 1219 → t ≠ 1220 → t ≠ 1230 → t ≠ 1231 → t ≠ 1232 → τ t o = σ t o
theorem fr72_r {σ : St} : fr72 σ σ := fun _ _ _ _ _ _ _ => rfl
theorem fr72_u {σ τ : St} {t o : Nat} {f : Int → Int} (h : fr72 σ τ) (ht : t = 1219 ∨ t = 1220 ∨ t = 1230 ∨ t = 1231 ∨ t = 1232) : fr72 σ (upA τ t o f) := fun t' o' a b c d e => by
  rw [upA_t (by omega)]
  exact h t' o' a b c d e
theorem fr72_fq {σ τ : St} (h : fr72 σ τ) : fq σ τ := fun t o ht => h t o (by omega) (by omega) (by omega) (by omega) (by omega)
theorem kV_e {K : Int → Int} {B w : Int} (hv : kV K B) (w0 : 0 ≤ w) (w1 : w < K 3) : (0 ≤ K (93 + w) ∧ K (93 + w) ≤ 4) ∧ ∀ e, 0 ≤ e → e < K (93 + w) → (0 ≤ K (98 + 4 * w + e) ∧ K (98 + 4 * w + e) < K 1 * K 2) ∧ 0 ≤ K (118 + 4 * w + e) ∧ K (118 + 4 * w + e) ≤ 999 := by
  have w5 := (kV_w hv w0 w1).2.1
  have a := hv.1.2.2.2.2.2.2.1 w w0 w5
  exact ⟨⟨a.1, a.2.1⟩, a.2.2⟩
theorem lgK_ok {K : Int → Int} {B w : Int} (hv : kV K B) (w0 : 0 ≤ w) (w1 : w < K 3) : lgOk (K (93 + w)).toNat (lgK K w) := fun i e i0 i1 e0 e1 => by
  have h2 := (kV_w hv w0 w1).1
  have hm := wh_mul h2
  have he := (kV_e hv w0 w1).2 e e0 (by omega)
  have h4 := (kV_e hv w0 w1).1
  unfold lgK
  rw [show (4 * i + e) / 4 = i by omega, show (4 * i + e) % 4 = e by omega]
  rcases dD_bnd (z := fromI (K (79 + w)) (fun e => K (98 + 4 * w + e)) i) h2 (prK_cs (w := w) hv.1 hv.2.1) (nK_c hv.1) he.1.1 (by omega) with a | a
  · left; omega
  · right; exact a
theorem c272 {d m : Nat} {k w B : Int} {K : Int → Int} {T : Tt} {σ : St} {Q : vmO → vmH → Prop} (hK : σ 1200 382 = K) (hv : kV K B) (hB : B < 900000000) (w0 : 0 ≤ w) (w1 : w < K 3) (hm4 : (m : Int) = K (93 + w)) (ho : ∀ i : Nat, i < m → 0 ≤ σ 1228 382 i ∧ σ 1228 382 i < K (93 + w))
    (hQ : ∀ τ, fr72 σ τ → (τ 1230 382 = fun _ => (rdK K w (σ 1228 382) m).1) → (τ 1232 382 = fun _ => (rdK K w (σ 1228 382) m).2.1) → (τ 1231 382 = fun _ => (rdK K w (σ 1228 382) m).2.2.1) → Q (.inl none) (E T τ)) : Ca (d + 5) k 272 [.ref 382, .int (i32 w), .int (i32 m)] (E T σ) Q := by
  have h0 := ob_md
  have hfar : far = 1000000000 := rfl
  have hhi : hiR = 536870912 := rfl
  obtain ⟨h2, h5, h6, h7⟩ := kV_w hv w0 w1
  have hm := wh_mul h2
  have hN := nK_c hv.1
  have hc := prK_cs (w := w) hv.1 hv.2.1
  have ac : prK K w (K (79 + w)) ≠ -1 := fun e => h7 ((prK_w hv.2.1 h6.1 (by omega)).mp e)
  obtain ⟨en, ee⟩ := kV_e hv w0 w1
  have lg := lgK_ok hv w0 w1
  have k89 : 0 ≤ K 89 ∧ K 89 ≤ B := hv.2.1.2.2.1
  rw [n272 _ _ _ _ _ _ _ _ h0]
  simp (disch := (first | assumption | omega | exact Nat.le_of_ble_eq_true rfl | rfl)) only [w272_0, w272_1, w272_2, Ko_n, Ko_v, vX_i, vX_r, vX_l, vX_j, reduceIte]
  rw [c231 hK hv hB (by omega) (by omega)]
  have hP : ∀ z, 0 ≤ z → z < K 1 * K 2 → (upA σ 1219 382 (cp (prR K w) (σ 1219 382) (K 1 * K 2))) 1219 382 z = rp (prK K w z) := fun z z0 z1 => by
    rw [upA_s]
    unfold cp
    rw [if_pos ⟨z0, z1⟩]
    exact prR_rp hv.2.1 (by omega) z0 (by omega)
  have loop : ∀ (q i : Nat) (τ : St) (l6 : Value), i + q = m → fr72 σ τ → (∀ z, 0 ≤ z → z < K 1 * K 2 → τ 1219 382 z = rp (prK K w z)) → (τ 1230 382 = fun _ => (rdK K w (σ 1228 382) i).1) → (τ 1232 382 = fun _ => (rdK K w (σ 1228 382) i).2.1) → (τ 1231 382 = fun _ => (rdK K w (σ 1228 382) i).2.2.1) → prK K w (fromI (K (79 + w)) (fun e => K (98 + 4 * w + e)) (rdK K w (σ 1228 382) i).2.2.2.1) ≠ -1 → Wp (d + 5) M_X12_goesRound 36 [.ref 382, .int (i32 w), .int (i32 m), .int (i32 (fromI (K (79 + w)) (fun e => K (98 + 4 * w + e)) (rdK K w (σ 1228 382) i).2.2.2.1)), .int (i32 (if (rdK K w (σ 1228 382) i).2.2.2.2 then 1 else 0)), .int (i32 i), l6] [] (E T τ) Q := by
    intro q
    induction q with
    | zero =>
      intro i τ l6 hi f1 g1 g2 g3 g4 g5
      have hi : i = m := by omega
      subst hi
      rw [w272_36]
      simp (disch := (first | assumption | omega | exact Nat.le_of_ble_eq_true rfl | rfl)) only [w272_38, w272_39, w272_42, w272_43, w272_44, w272_45, w272_46, w272_49, w272_51, w272_52, w272_53, w272_55, w272_57, w272_60, w272_61, w272_62, w272_65, w272_67, w272_70, w272_71, w272_74, w272_75, w272_78, w272_80, w272_82, w272_83, w272_84, w272_85, w272_88, w272_91, w272_92, w272_95, w272_96, w272_98, w272_100, w272_103, w272_104, w272_107, w272_109, w272_111, w272_112, w272_113, w272_114, w272_115, w272_116, w272_119, w272_120, w272_123, w272_124, w272_125, w272_126, w272_129, w272_131, w272_134, w272_135, w272_138, w272_140, w272_141, w272_142, w272_145, w272_146, w272_147, w272_150, w272_152, w272_154, w272_155, w272_156, w272_159, w272_162, w272_163, w272_164, w272_167, w272_168, w272_169, w272_172, w272_173, w272_176, w272_177, w272_180, w272_181, w272_182, w272_185, w272_187, w272_188, w272_191, w272_194, w272_197, Ko_n, Ko_v, vX_i, vX_r, vX_l, vX_j, reduceIte, Int.le_refl]
      exact hQ τ f1 g2 g3 g4
    | succ q ih =>
      intro i τ l6 hi f1 g1 g2 g3 g4 g5
      have oi := ho i (by omega)
      have i4 : i < 4 := by omega
      have kT : τ 1200 382 = K := by rw [f1 1200 382 (by omega) (by omega) (by omega) (by omega) (by omega)]; exact hK
      have oT : τ 1228 382 = σ 1228 382 := f1 1228 382 (by omega) (by omega) (by omega) (by omega) (by omega)
      have inn := rdI_in (du := duK K w) (st := K 89) lg (by omega) (o := σ 1228 382) (fun i hi => by
        have := ho i (by omega)
        omega) i (by omega)
      have ih' := ih (i + 1)
      rw [show rdK K w (σ 1228 382) (i + 1) = rdS1 (lgK K w) (duK K w) (K 89) (σ 1228 382 i) (rdK K w (σ 1228 382) i) from rfl, show ((i + 1 : Nat) : Int) = (i : Int) + 1 by omega] at ih'
      have inn' : 0 ≤ (rdK K w (σ 1228 382) i).1 ∧ (rdK K w (σ 1228 382) i).1 ≤ 10000 * i ∧ 0 ≤ (rdK K w (σ 1228 382) i).2.1 ∧ (rdK K w (σ 1228 382) i).2.1 ≤ i ∧ -1 ≤ (rdK K w (σ 1228 382) i).2.2.1 ∧ (rdK K w (σ 1228 382) i).2.2.1 < 4 ∧ 0 ≤ (rdK K w (σ 1228 382) i).2.2.2.1 ∧ (rdK K w (σ 1228 382) i).2.2.2.1 ≤ ((K (93 + w)).toNat : Nat) := inn
      clear inn ih
      generalize rdK K w (σ 1228 382) i = x at ih' inn' g2 g3 g4 g5 ⊢
      obtain ⟨c, l, f, r, kb⟩ := x
      dsimp only at ih' inn' g2 g3 g4 g5 ⊢
      obtain ⟨n1, n2, n3, n4, n5, n6, n7, n8⟩ := inn'
      have e4 := ee _ oi.1 oi.2
      have frin : 0 ≤ fromI (K (79 + w)) (fun e => K (98 + 4 * w + e)) r ∧ fromI (K (79 + w)) (fun e => K (98 + 4 * w + e)) r < K 1 * K 2 := by
        unfold fromI
        by_cases er : r = 0
        · rw [if_pos er]; exact h6
        · rw [if_neg er]; exact (ee (r - 1) (by omega) (by omega)).1
      have lgE : lgK K w (4 * r + σ 1228 382 i) = dD (K 1) (K 2) (prK K w) (fromI (K (79 + w)) (fun e => K (98 + 4 * w + e)) r) (nK K) (K (98 + 4 * w + σ 1228 382 i)) := by
        unfold lgK
        rw [show (4 * r + σ 1228 382 i) / 4 = r by omega, show (4 * r + σ 1228 382 i) % 4 = σ 1228 382 i by omega]
      have i98 : (98 : Int) + (4 * w + σ 1228 382 i) = 98 + 4 * w + σ 1228 382 i := by omega
      have i118 : (118 : Int) + (4 * w + σ 1228 382 i) = 118 + 4 * w + σ 1228 382 i := by omega
      have nx : ∀ (τ' : St) (c' l' f' r' : Int) (k' : Bool) (l6 : Value), rdS1 (lgK K w) (duK K w) (K 89) (σ 1228 382 i) (c, l, f, r, kb) = (c', l', f', r', k') → fr72 σ τ' → (∀ z, 0 ≤ z → z < K 1 * K 2 → τ' 1219 382 z = rp (prK K w z)) → (τ' 1230 382 = fun _ => c') → (τ' 1232 382 = fun _ => l') → (τ' 1231 382 = fun _ => f') → prK K w (fromI (K (79 + w)) (fun e => K (98 + 4 * w + e)) r') ≠ -1 → Wp (d + 5) M_X12_goesRound 191 [.ref 382, .int (i32 w), .int (i32 m), .int (i32 (fromI (K (79 + w)) (fun e => K (98 + 4 * w + e)) r')), .int (i32 (if k' then 1 else 0)), .int (i32 i), l6] [] (E T τ') Q := by
        intro τ' c' l' f' r' k' l6 hx a1 a2 a3 a4 a5 a6
        rw [hx] at ih'
        simp (disch := (first | assumption | omega | exact Nat.le_of_ble_eq_true rfl | rfl)) only [w272_191, w272_194, Ko_n, Ko_v, vX_i, vX_r, vX_l, vX_j, reduceIte]
        exact ih' τ' l6 (by omega) a1 a2 a3 a4 a5 a6
      have late : ∀ (τ' : St) (c' r' : Int) (k' : Bool) (l6 : Value), rdS1 (lgK K w) (duK K w) (K 89) (σ 1228 382 i) (c, l, f, r, kb) = (c', l + 1, (if f = -1 then σ 1228 382 i else f), r', k') → fr72 σ τ' → (∀ z, 0 ≤ z → z < K 1 * K 2 → τ' 1219 382 z = rp (prK K w z)) → (τ' 1230 382 = fun _ => c') → (τ' 1232 382 = fun _ => l) → (τ' 1231 382 = fun _ => f) → prK K w (fromI (K (79 + w)) (fun e => K (98 + 4 * w + e)) r') ≠ -1 → Wp (d + 5) M_X12_goesRound 162 [.ref 382, .int (i32 w), .int (i32 m), .int (i32 (fromI (K (79 + w)) (fun e => K (98 + 4 * w + e)) r')), .int (i32 (if k' then 1 else 0)), .int (i32 i), l6] [] (E T τ') Q := by
        intro τ' c' r' k' l6 hx a1 a2 a3 a4 a5 a6
        have oT' : τ' 1228 382 = σ 1228 382 := a1 1228 382 (by omega) (by omega) (by omega) (by omega) (by omega)
        by_cases ef : f = -1
        · rw [if_pos ef] at hx
          simp (disch := (first | assumption | omega | exact Nat.le_of_ble_eq_true rfl | rfl)) only [w272_162, w272_163, w272_164, w272_167, w272_168, w272_169, w272_172, w272_173, w272_176, w272_177, w272_180, w272_181, w272_182, w272_185, w272_187, w272_188, Ko_n, Ko_v, vX_i, vX_r, vX_l, vX_j, reduceIte, a4, a5, ef, upA_t, oT', not_true]
          exact nx _ c' (l + 1) _ r' k' l6 hx (fr72_u (fr72_u a1 (by omega)) (by omega)) (fun z z0 z1 => by rw [upA_t (by omega), upA_t (by omega)]; exact a2 z z0 z1) (by rw [upA_t (by omega), upA_t (by omega)]; exact a3) (by rw [upA_t (by omega), upA_s]) (by rw [upA_s]) a6
        · rw [if_neg ef] at hx
          simp (disch := (first | assumption | omega | exact Nat.le_of_ble_eq_true rfl | rfl)) only [w272_162, w272_163, w272_164, w272_167, w272_168, w272_169, w272_172, w272_173, w272_176, w272_177, w272_180, w272_181, w272_182, w272_185, w272_187, w272_188, Ko_n, Ko_v, vX_i, vX_r, vX_l, vX_j, reduceIte, a4, a5, ef, upA_t, not_false_eq_true]
          exact nx _ c' (l + 1) _ r' k' l6 hx (fr72_u a1 (by omega)) (fun z z0 z1 => by rw [upA_t (by omega)]; exact a2 z z0 z1) (by rw [upA_t (by omega)]; exact a3) (by rw [upA_s]) (by rw [upA_t (by omega)]; exact a5) a6
      clear ih'
      cases kb with
      | true =>
        have hx : rdS1 (lgK K w) (duK K w) (K 89) (σ 1228 382 i) (c, l, f, r, true) = (c, l + 1, (if f = -1 then σ 1228 382 i else f), r, true) := by
          unfold rdS1
          dsimp only
          simp only [Bool.true_or, if_true, true_or]
        have lt := fun l6 => late τ c r true l6 hx f1 g1 g2 g3 g4 g5
        simp only [if_true] at lt
        rw [w272_36]
        simp (disch := (first | assumption | omega | exact Nat.le_of_ble_eq_true rfl | rfl)) only [w272_38, w272_39, w272_42, w272_43, w272_44, w272_45, w272_46, w272_49, w272_51, w272_52, w272_53, w272_55, w272_57, w272_60, w272_61, w272_62, w272_65, w272_67, w272_70, w272_71, w272_74, w272_75, w272_78, w272_80, w272_82, w272_83, w272_84, w272_85, w272_88, w272_91, w272_92, w272_95, w272_96, w272_98, w272_100, w272_103, w272_104, w272_107, w272_109, w272_111, w272_112, w272_113, w272_114, w272_115, w272_116, w272_119, w272_120, w272_123, w272_124, w272_125, w272_126, w272_129, w272_131, w272_134, w272_135, w272_138, w272_140, w272_141, w272_142, w272_145, w272_146, w272_147, w272_150, w272_152, w272_154, w272_155, w272_156, w272_159, Ko_n, Ko_v, vX_i, vX_r, vX_l, vX_j, reduceIte, show ¬ (m : Int) ≤ (i : Int) by omega, kT, oT, if_true, Int.reduceEq, not_false_eq_true]
        exact lt _
      | false =>
        have cell : 0 ≤ K (98 + 4 * w + σ 1228 382 i) ∧ K (98 + 4 * w + σ 1228 382 i) < K 1 * K 2 := e4.1
        rw [w272_36]
        simp (disch := (first | assumption | omega | exact Nat.le_of_ble_eq_true rfl | rfl)) only [w272_38, w272_39, w272_42, w272_43, w272_44, w272_45, w272_46, w272_49, w272_51, w272_52, w272_53, w272_55, w272_57, w272_60, w272_61, w272_62, Ko_n, Ko_v, vX_i, vX_r, vX_l, vX_j, reduceIte, show ¬ (m : Int) ≤ (i : Int) by omega, kT, oT, Bool.false_eq_true, if_false, not_true]
        refine c232 (N := nK K) (c := prK K w) kT h2 hN hc g1 frin.1 frin.2 g5 fun D hD => ?_
        have Dc := hD _ cell.1 cell.2
        rw [← lgE] at Dc
        have lb := lg r (σ 1228 382 i) n7 (by omega) oi.1 (by omega)
        have f2 : fr72 σ (upA τ 1220 382 D) := fr72_u f1 (by omega)
        have p2 : ∀ z, 0 ≤ z → z < K 1 * K 2 → (upA τ 1220 382 D) 1219 382 z = rp (prK K w z) := fun z z0 z1 => by rw [upA_t (by omega)]; exact g1 z z0 z1
        by_cases es : lgK K w (4 * r + σ 1228 382 i) < far
        · rw [show rf (lgK K w (4 * r + σ 1228 382 i)) = lgK K w (4 * r + σ 1228 382 i) from if_pos es] at Dc
          have nc : prK K w (K (98 + 4 * w + σ 1228 382 i)) ≠ -1 := dD_nw h2 hc hN cell.1 cell.2 (by rw [lgE] at es; exact es)
          have fe : fromI (K (79 + w)) (fun e => K (98 + 4 * w + e)) (σ 1228 382 i + 1) = K (98 + 4 * w + σ 1228 382 i) := by
            unfold fromI
            rw [if_neg (by omega), show σ 1228 382 i + 1 - 1 = σ 1228 382 i by omega]
          have sx : rdS1 (lgK K w) (duK K w) (K 89) (σ 1228 382 i) (c, l, f, r, false) = if duK K w (σ 1228 382 i) < K 89 + (c + lgK K w (4 * r + σ 1228 382 i)) then (c + lgK K w (4 * r + σ 1228 382 i), l + 1, (if f = -1 then σ 1228 382 i else f), σ 1228 382 i + 1, false) else (c + lgK K w (4 * r + σ 1228 382 i), l, f, σ 1228 382 i + 1, false) := by
            unfold rdS1
            dsimp only
            rw [show decide (far ≤ lgK K w (4 * r + σ 1228 382 i)) = false from decide_eq_false (by omega)]
            simp only [Bool.or_self, Bool.false_eq_true, if_false, false_or]
          generalize lgK K w (4 * r + σ 1228 382 i) = lv at Dc lb es sx
          have due : duK K w (σ 1228 382 i) = K (118 + 4 * w + σ 1228 382 i) := rfl
          by_cases el : K (118 + 4 * w + σ 1228 382 i) < K 89 + (c + lv)
          · rw [if_pos (by rw [due]; exact el)] at sx
            have lt := fun l6 => late (upA (upA τ 1220 382 D) 1230 382 fun _ => c + lv) (c + lv) (σ 1228 382 i + 1) false l6 sx (fr72_u f2 (by omega)) (fun z z0 z1 => by rw [upA_t (by omega)]; exact p2 z z0 z1) (by rw [upA_s]) (by rw [upA_t (by omega), upA_t (by omega)]; exact g3) (by rw [upA_t (by omega), upA_t (by omega)]; exact g4) (by rw [fe]; exact nc)
            rw [fe] at lt
            simp (disch := (first | assumption | omega | exact Nat.le_of_ble_eq_true rfl | rfl)) only [w272_65, w272_67, w272_70, w272_71, w272_74, w272_75, w272_78, w272_80, w272_82, w272_83, w272_84, w272_85, w272_88, w272_91, w272_92, w272_95, w272_96, w272_98, w272_100, w272_103, w272_104, w272_107, w272_109, w272_111, w272_112, w272_113, w272_114, w272_115, w272_116, w272_119, w272_120, w272_123, w272_124, w272_125, w272_126, w272_129, w272_131, w272_134, w272_135, w272_138, w272_140, w272_141, w272_142, w272_145, w272_146, w272_147, w272_150, w272_152, w272_154, w272_155, w272_156, w272_159, Ko_n, Ko_v, vX_i, vX_r, vX_l, vX_j, reduceIte, Bool.false_eq_true, if_false, not_true, upA_s, upA_t, kT, i98, i118, Dc, show ¬ lv = 536870912 by omega, not_false_eq_true, g2, el]
            simp only [Bool.false_eq_true, if_false] at lt
            exact lt _
          · rw [if_neg (by rw [due]; exact el)] at sx
            have lt := fun l6 => nx (upA (upA τ 1220 382 D) 1230 382 fun _ => c + lv) (c + lv) l f (σ 1228 382 i + 1) false l6 sx (fr72_u f2 (by omega)) (fun z z0 z1 => by rw [upA_t (by omega)]; exact p2 z z0 z1) (by rw [upA_s]) (by rw [upA_t (by omega), upA_t (by omega)]; exact g3) (by rw [upA_t (by omega), upA_t (by omega)]; exact g4) (by rw [fe]; exact nc)
            rw [fe] at lt
            simp (disch := (first | assumption | omega | exact Nat.le_of_ble_eq_true rfl | rfl)) only [w272_65, w272_67, w272_70, w272_71, w272_74, w272_75, w272_78, w272_80, w272_82, w272_83, w272_84, w272_85, w272_88, w272_91, w272_92, w272_95, w272_96, w272_98, w272_100, w272_103, w272_104, w272_107, w272_109, w272_111, w272_112, w272_113, w272_114, w272_115, w272_116, w272_119, w272_120, w272_123, w272_124, w272_125, w272_126, w272_129, w272_131, w272_134, w272_135, w272_138, w272_140, w272_141, w272_142, w272_145, w272_146, w272_147, w272_150, w272_152, w272_154, w272_155, w272_156, w272_159, Ko_n, Ko_v, vX_i, vX_r, vX_l, vX_j, reduceIte, Bool.false_eq_true, if_false, not_true, upA_s, upA_t, kT, i98, i118, Dc, show ¬ lv = 536870912 by omega, not_false_eq_true, g2, el]
            simp only [Bool.false_eq_true, if_false] at lt
            exact lt _
        · rw [show rf (lgK K w (4 * r + σ 1228 382 i)) = 536870912 from if_neg es] at Dc
          have sx : rdS1 (lgK K w) (duK K w) (K 89) (σ 1228 382 i) (c, l, f, r, false) = (c, l + 1, (if f = -1 then σ 1228 382 i else f), r, true) := by
            unfold rdS1
            dsimp only
            rw [show decide (far ≤ lgK K w (4 * r + σ 1228 382 i)) = true from decide_eq_true (by omega)]
            simp only [Bool.or_true, if_true, true_or]
          have lt := fun l6 => late (upA τ 1220 382 D) c r true l6 sx f2 p2 (by rw [upA_t (by omega)]; exact g2) (by rw [upA_t (by omega)]; exact g3) (by rw [upA_t (by omega)]; exact g4) g5
          simp (disch := (first | assumption | omega | exact Nat.le_of_ble_eq_true rfl | rfl)) only [w272_65, w272_67, w272_70, w272_71, w272_74, w272_75, w272_78, w272_80, w272_82, w272_83, w272_84, w272_85, w272_88, w272_91, w272_92, w272_95, w272_96, w272_98, w272_100, w272_103, w272_104, w272_107, w272_109, w272_111, w272_112, w272_113, w272_114, w272_115, w272_116, w272_119, w272_120, w272_123, w272_124, w272_125, w272_126, w272_129, w272_131, w272_134, w272_135, w272_138, w272_140, w272_141, w272_142, w272_145, w272_146, w272_147, w272_150, w272_152, w272_154, w272_155, w272_156, w272_159, Ko_n, Ko_v, vX_i, vX_r, vX_l, vX_j, reduceIte, Bool.false_eq_true, if_false, not_true, upA_s, upA_t, kT, i98, Dc, Int.reduceEq, not_false_eq_true]
          simp only [if_true] at lt
          exact lt _
  simp (disch := (first | assumption | omega | exact Nat.le_of_ble_eq_true rfl | rfl)) only [w272_5, w272_6, w272_9, w272_11, w272_12, w272_13, w272_14, w272_15, w272_16, w272_18, w272_19, w272_20, w272_23, w272_24, w272_25, w272_28, w272_29, w272_30, w272_33, w272_34, Ko_n, Ko_v, vX_i, vX_r, vX_l, vX_j, reduceIte, upA_t, hK]
  refine loop m 0 _ _ (by omega) (fr72_u (fr72_u (fr72_u (fr72_u fr72_r (by omega)) (by omega)) (by omega)) (by omega)) (fun z z0 z1 => by rw [upA_t (by omega), upA_t (by omega), upA_t (by omega)]; exact hP z z0 z1) ?_ ?_ ?_ ac
  · rw [upA_t (by omega), upA_t (by omega), upA_s]; rfl
  · rw [upA_s]; rfl
  · rw [upA_t (by omega), upA_s]; rfl
theorem c273 {d : Nat} {k w wh B : Int} {K : Int → Int} {T : Tt} {σ : St} {Q : vmO → vmH → Prop} (hK : σ 1200 382 = K) (hv : kV K B) (hB : B < 900000000) (x0 : -2147483648 ≤ w) (x1 : w < 2147483648) (y0 : -2147483648 ≤ wh) (y1 : wh < 2147483648)
    (hQ1 : ∀ u, ((¬ (0 ≤ w ∧ w < K 3) ∧ u = 1) ∨ ((0 ≤ w ∧ w < K 3) ∧ ¬ (0 ≤ wh ∧ wh ≤ 2) ∧ u = 2)) → ∀ τ, fT σ τ → τ 1200 382 = K → τ 1204 382 0 = u → Q (.inl (some (.int (i32 0)))) (E T τ))
    (hQ2 : (0 ≤ w ∧ w < K 3) → (0 ≤ wh ∧ wh ≤ 2) → ∀ τ, fT σ τ → τ 1200 382 = K → τ 1204 382 0 = 0 → Q (.inl (some (.int (i32 (rnA (rdK K w (fun i => i) (K (93 + w)).toNat) wh))))) (E T τ)) : Ca (d + 7) k 273 [.ref 382, .int (i32 w), .int (i32 wh)] (E T σ) Q := by
  have h0 := ob_md
  have kU : ∀ u, (upA σ 1204 382 fun _ => u) 1200 382 = K := fun u => by rw [upA_t (by omega)]; exact hK
  have fU : ∀ u, fT σ (upA σ 1204 382 fun _ => u) := fun u => fT_u fT_r (by omega)
  have sU : ∀ u, (upA σ 1204 382 fun _ => u) 1204 382 0 = u := fun u => by rw [upA_s]
  rw [n273 _ _ _ _ _ _ _ _ h0]
  simp (disch := (first | assumption | omega | exact Nat.le_of_ble_eq_true rfl | rfl)) only [w273_0, w273_1, w273_2, w273_3, w273_4, Ko_n, Ko_v, vX_i, vX_r, vX_l, vX_j, reduceIte]
  rw [c215 hK hv (by omega) (by omega)]
  by_cases a : 0 ≤ w ∧ w < K 3
  · simp (disch := (first | assumption | omega | exact Nat.le_of_ble_eq_true rfl | rfl)) only [w273_7, w273_10, w273_11, w273_14, w273_15, w273_16, w273_17, w273_20, Ko_n, Ko_v, vX_i, vX_r, vX_l, vX_j, reduceIte, a, and_self, Int.reduceEq, not_false_eq_true]
    rw [c176 (by omega) (by omega) (by omega) (by omega) (by omega) (by omega) (by omega)]
    by_cases b : 0 ≤ wh ∧ wh ≤ 2
    · obtain ⟨en, ee⟩ := kV_e hv a.1 a.2
      have w5 := (kV_w hv a.1 a.2).2.1
      have hq := hQ2 a b
      have init : ∀ (m n : Nat) (G : Int → Int), n + m = 4 → (∀ i : Nat, i < n → G i = i) → Wp (d + 7) M_X12_round 45 [.ref 382, .int (i32 w), .int (i32 wh), .int (i32 n)] [] (E T (upA (upA σ 1204 382 fun _ => 0) 1228 382 G)) Q := by
        intro m
        induction m with
        | zero =>
          intro n G hn hG
          have hn : n = 4 := by omega
          subst hn
          have gK : (upA (upA σ 1204 382 fun _ => 0) 1228 382 G) 1200 382 = K := by rw [upA_t (by omega)]; exact kU 0
          rw [w273_45]
          simp (disch := (first | assumption | omega | exact Nat.le_of_ble_eq_true rfl | rfl)) only [w273_46, w273_47, w273_50, w273_51, w273_54, w273_55, w273_56, w273_57, w273_60, w273_63, w273_64, w273_65, w273_66, w273_69, w273_71, w273_72, w273_73, w273_74, Ko_n, Ko_v, vX_i, vX_r, vX_l, vX_j, reduceIte, show (4 : Int) ≤ ((4 : Nat) : Int) by omega, gK]
          rw [show K (93 + w) = (((K (93 + w)).toNat : Nat) : Int) by omega]
          refine c272 gK hv hB a.1 a.2 (by omega) (fun i hi => ?_) fun τ f1 g1 g2 g3 => ?_
          · rw [upA_s, hG i (by omega)]; omega
          · have re : rdK K w ((upA (upA σ 1204 382 fun _ => 0) 1228 382 G) 1228 382) (K (93 + w)).toNat = rdK K w (fun i => i) (K (93 + w)).toNat := by
              rw [upA_s]
              exact rdI_congr (N := (K (93 + w)).toNat) (fun i hi => hG i (by omega)) _ (Nat.le_refl _)
            rw [re] at g1 g2 g3
            have kt : τ 1200 382 = K := by rw [f1 1200 382 (by omega) (by omega) (by omega) (by omega) (by omega)]; exact gK
            have ft : fT σ τ := fun t o ht => by
              rw [f1 t o (by omega) (by omega) (by omega) (by omega) (by omega), upA_t (by omega)]
              exact fU 0 t o ht
            have st : τ 1204 382 0 = 0 := by
              rw [f1 1204 382 (by omega) (by omega) (by omega) (by omega) (by omega), upA_t (by omega)]
              exact sU 0
            have q := hq τ ft kt st
            unfold rnA at q
            by_cases e0 : wh = 0
            · rw [if_pos e0] at q
              simp (disch := (first | assumption | omega | exact Nat.le_of_ble_eq_true rfl | rfl)) only [w273_77, w273_78, w273_81, w273_82, w273_85, w273_88, w273_89, w273_90, w273_93, w273_94, w273_97, w273_100, w273_101, w273_104, Ko_n, Ko_v, vX_i, vX_r, vX_l, vX_j, reduceIte, e0, not_true, g1]
              exact q
            · rw [if_neg e0] at q
              by_cases e1 : wh = 1
              · rw [if_pos e1] at q
                simp (disch := (first | assumption | omega | exact Nat.le_of_ble_eq_true rfl | rfl)) only [w273_77, w273_78, w273_81, w273_82, w273_85, w273_88, w273_89, w273_90, w273_93, w273_94, w273_97, w273_100, w273_101, w273_104, Ko_n, Ko_v, vX_i, vX_r, vX_l, vX_j, reduceIte, e1, not_true, Int.reduceEq, not_false_eq_true, g3]
                exact q
              · rw [if_neg e1] at q
                simp (disch := (first | assumption | omega | exact Nat.le_of_ble_eq_true rfl | rfl)) only [w273_77, w273_78, w273_81, w273_82, w273_85, w273_88, w273_89, w273_90, w273_93, w273_94, w273_97, w273_100, w273_101, w273_104, Ko_n, Ko_v, vX_i, vX_r, vX_l, vX_j, reduceIte, e0, e1, not_false_eq_true, g2]
                exact q
        | succ m ih =>
          intro n G hn hG
          have ih' := ih (n + 1) (fu G n n) (by omega) (fun i hi => by
            by_cases ei : i = n
            · rw [ei, fu_s]
            · rw [fu_n (by omega)]; exact hG i (by omega))
          rw [show ((n + 1 : Nat) : Int) = (n : Int) + 1 by omega] at ih'
          rw [w273_45]
          simp (disch := (first | assumption | omega | exact Nat.le_of_ble_eq_true rfl | rfl)) only [w273_46, w273_47, w273_50, w273_51, w273_54, w273_55, w273_56, w273_57, w273_60, Ko_n, Ko_v, vX_i, vX_r, vX_l, vX_j, reduceIte, show ¬ (4 : Int) ≤ (n : Int) by omega, upA_s, upA_upA]
          exact ih'
      have i0 := init 4 0 (σ 1228 382) (by omega) (fun i hi => by omega)
      rw [show upA (upA σ 1204 382 fun _ => 0) 1228 382 (σ 1228 382) = upA σ 1204 382 fun _ => 0 by
        conv => lhs; rw [show σ 1228 382 = (upA σ 1204 382 fun _ => 0) 1228 382 by rw [upA_t (by omega)], upA_self]] at i0
      simp (disch := (first | assumption | omega | exact Nat.le_of_ble_eq_true rfl | rfl)) only [w273_23, w273_26, w273_27, w273_30, w273_31, w273_34, w273_35, w273_38, w273_41, w273_42, w273_43, w273_44, Ko_n, Ko_v, vX_i, vX_r, vX_l, vX_j, reduceIte, b, and_self, Int.reduceEq, not_false_eq_true, upA_s, Int.le_refl]
      exact i0
    · simp (disch := (first | assumption | omega | exact Nat.le_of_ble_eq_true rfl | rfl)) only [w273_23, w273_26, w273_27, w273_30, w273_31, w273_34, w273_35, w273_38, w273_41, w273_42, w273_43, w273_44, Ko_n, Ko_v, vX_i, vX_r, vX_l, vX_j, reduceIte, b, upA_s, show ¬ (2 : Int) ≤ 0 by omega]
      exact hQ1 2 (Or.inr ⟨a, b, rfl⟩) _ (fU _) (kU _) (sU _)
  · simp (disch := (first | assumption | omega | exact Nat.le_of_ble_eq_true rfl | rfl)) only [w273_7, w273_10, w273_11, w273_14, w273_15, w273_16, w273_17, w273_20, w273_23, w273_26, w273_27, w273_30, w273_31, w273_34, w273_35, w273_38, w273_41, w273_42, w273_43, w273_44, Ko_n, Ko_v, vX_i, vX_r, vX_l, vX_j, reduceIte, a, not_true, upA_s, show ¬ (1 : Int) ≤ 0 by omega]
    exact hQ1 1 (Or.inl ⟨a, rfl⟩) _ (fU _) (kU _) (sU _)
