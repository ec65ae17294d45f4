/-! ===== the reference: goesOrders, bestOrder ===== -/
def ordL (p : List Int) : Int → Int := fun i => p.getD i.toNat 0
def lvF (g : Nat → List (List Int)) : Nat → Nat → List (List Int)
  | 0, _ => []
  | m + 1, i => g i ++ lvF g m (i + 1)
/-- the orders that go on from one begun -/
def lvs (n : Nat) : Nat → List Int → Int → List (List Int)
  | 0, p, _ => [p]
  | f + 1, p, u => lvF (fun e => if frB u e then [] else lvs n f (p ++ [(e : Int)]) (oo u (sl 1 e))) n 0
def btS (K : Int → Int) (w : Int) (n : Nat) (x : Bo) (p : List Int) : Bo := if x.1 = -1 ∨ (rdK K w (ordL p) n).2.1 < x.1 ∨ ((rdK K w (ordL p) n).2.1 = x.1 ∧ (rdK K w (ordL p) n).1 < x.2.1) then ((rdK K w (ordL p) n).2.1, (rdK K w (ordL p) n).1, ordL p) else x
def fr74 (σ τ : St) : Prop := ∀ t o, (t < 1219 ∨ (1220 < t ∧ t < 1228) ∨ 1234 < t) → τ t o = σ t o
theorem fr74_r {σ : St} : fr74 σ σ := fun _ _ _ => rfl
theorem fr74_t {σ τ ρ : St} (h1 : fr74 σ τ) (h2 : fr74 τ ρ) : fr74 σ ρ := fun t o h => (h2 t o h).trans (h1 t o h)
theorem fr74_u {σ τ : St} {t o : Nat} {f : Int → Int} (h : fr74 σ τ) (ht : 1228 ≤ t ∧ t ≤ 1234) : fr74 σ (upA τ t o f) := fun t' o' h' => by rw [upA_t (by omega)]; exact h t' o' h'
theorem fr74_72 {σ τ : St} (h : fr72 σ τ) : fr74 σ τ := fun t o ht => h t o (by omega) (by omega) (by omega) (by omega) (by omega)
/-- the best so far, as the reference keeps it -/
def bsR (τ : St) (x : Bo) (n : Nat) : Prop := ((τ 1233 382 = fun _ => x.1) ∧ (-1 ≤ x.1 ∧ x.1 ≤ 4)) ∧ (x.1 ≠ -1 → (τ 1234 382 = fun _ => x.2.1) ∧ (0 ≤ x.2.1 ∧ x.2.1 ≤ 40000) ∧ ∀ i : Nat, i < n → τ 1229 382 i = x.2.2 i)
theorem bsR_t {τ τ' : St} {x : Bo} {n : Nat} (h : bsR τ x n) (h1 : τ' 1233 382 = τ 1233 382) (h2 : τ' 1234 382 = τ 1234 382) (h3 : τ' 1229 382 = τ 1229 382) : bsR τ' x n := by
  refine ⟨⟨by rw [h1]; exact h.1.1, h.1.2⟩, fun e => ?_⟩
  have a := h.2 e
  exact ⟨by rw [h2]; exact a.1, a.2.1, fun i hi => by rw [h3]; exact a.2.2 i hi⟩
theorem ordL_at {p : List Int} {e : Int} : ordL (p ++ [e]) (p.length : Nat) = e := by
  unfold ordL
  rw [Int.toNat_natCast, List.getD_eq_getElem?_getD, List.getElem?_append_right (Nat.le_refl _)]
  simp
theorem ordL_lt {p : List Int} {e : Int} {i : Nat} (h : i < p.length) : ordL (p ++ [e]) i = ordL p i := by
  unfold ordL
  rw [Int.toNat_natCast, List.getD_eq_getElem?_getD, List.getElem?_append_left h, List.getD_eq_getElem?_getD]
theorem c274 {B w : Int} {K : Int → Int} {n : Nat} (hv : kV K B) (hB : B < 900000000) (w0 : 0 ≤ w) (w1 : w < K 3) (hn : (n : Int) = K (93 + w)) : ∀ (f d : Nat) (k u m : Int) (p : List Int) (x : Bo) (T : Tt) (τ : St) (Q : vmO → vmH → Prop), m = (p.length : Nat) → p.length + f = n → (∀ i : Nat, i < p.length → 0 ≤ ordL p i ∧ ordL p i < n) → (0 ≤ u ∧ u < 16) → τ 1200 382 = K → (∀ i : Nat, i < p.length → τ 1228 382 i = ordL p i) → bsR τ x n → (∀ τ', fr74 τ τ' → (∀ i : Nat, i < p.length → τ' 1228 382 i = ordL p i) → bsR τ' ((lvs n f p u).foldl (btS K w n) x) n → Q (.inl none) (E T τ')) → Ca (d + f + 6) k 274 [.ref 382, .int (i32 w), .int (i32 m), .int (i32 u)] (E T τ) Q := by
  have h0 := ob_md
  have w5 := (kV_w hv w0 w1).2.1
  obtain ⟨en, ee⟩ := kV_e hv w0 w1
  intro f
  induction f with
  | zero =>
    intro d k u m p x T τ Q hm hp hpi hu hK ho hb hQ
    subst hm
    have hp : p.length = n := by omega
    have ef : (lvs n 0 p u).foldl (btS K w n) x = btS K w n x p := rfl
    rw [ef] at hQ
    rw [n274 _ _ _ _ _ _ _ _ _ h0, hp]
    rw [hp] at hpi ho hQ
    simp (disch := (first | assumption | omega | exact Nat.le_of_ble_eq_true rfl | rfl)) only [w274_0, w274_1, w274_2, w274_5, w274_7, w274_8, w274_9, w274_10, w274_13, w274_14, w274_15, w274_16, Ko_n, Ko_v, vX_i, vX_r, vX_l, vX_j, reduceIte, hK, hn, not_true]
    rw [← hn]
    refine c272 hK hv hB w0 w1 hn (fun i hi => by rw [ho i hi, ← hn]; exact hpi i hi) fun τ1 f1 g1 g2 g3 => ?_
    have re : rdK K w (τ 1228 382) n = rdK K w (ordL p) n := rdI_congr (N := n) ho n (Nat.le_refl _)
    rw [re] at g1 g2 g3
    have inn := rdI_in (du := duK K w) (st := K 89) (lgK_ok hv w0 w1) (by omega) (o := ordL p) (fun i hi => by have := hpi i (by omega); omega) n (by omega)
    have inn' : 0 ≤ (rdK K w (ordL p) n).1 ∧ (rdK K w (ordL p) n).1 ≤ 10000 * n ∧ 0 ≤ (rdK K w (ordL p) n).2.1 ∧ (rdK K w (ordL p) n).2.1 ≤ n := ⟨inn.1, inn.2.1, inn.2.2.1, inn.2.2.2.1⟩
    clear inn
    have o1 : τ1 1228 382 = τ 1228 382 := f1 1228 382 (by omega) (by omega) (by omega) (by omega) (by omega)
    have b1 : bsR τ1 x n := bsR_t hb (f1 1233 382 (by omega) (by omega) (by omega) (by omega) (by omega)) (f1 1234 382 (by omega) (by omega) (by omega) (by omega) (by omega)) (f1 1229 382 (by omega) (by omega) (by omega) (by omega) (by omega))
    unfold btS at hQ
    generalize rdK K w (ordL p) n = r at inn' hQ g1 g2 g3
    have no : ¬ (x.1 = -1 ∨ r.2.1 < x.1 ∨ (r.2.1 = x.1 ∧ r.1 < x.2.1)) → Q (.inl none) (E T τ1) := by
      intro e
      rw [if_neg e] at hQ
      exact hQ τ1 (fr74_72 f1) (fun i hi => by rw [o1]; exact ho i hi) b1
    have yes : (x.1 = -1 ∨ r.2.1 < x.1 ∨ (r.2.1 = x.1 ∧ r.1 < x.2.1)) → ∀ l4, Wp (d + 0 + 6) M_X12_goesOrders 61 [.ref 382, .int (i32 w), .int (i32 n), .int (i32 u), l4] [] (E T τ1) Q := by
      intro e l4
      rw [if_pos e] at hQ
      have o3 : (upA (upA τ1 1233 382 fun _ => r.2.1) 1234 382 fun _ => r.1) 1228 382 = τ 1228 382 := by rw [upA_t (by omega), upA_t (by omega)]; exact o1
      have f3 : fr74 τ (upA (upA τ1 1233 382 fun _ => r.2.1) 1234 382 fun _ => r.1) := fr74_u (fr74_u (fr74_72 f1) (by omega)) (by omega)
      have g33 : (upA (upA τ1 1233 382 fun _ => r.2.1) 1234 382 fun _ => r.1) 1233 382 = fun _ => r.2.1 := by rw [upA_t (by omega), upA_s]
      have g34 : (upA (upA τ1 1233 382 fun _ => r.2.1) 1234 382 fun _ => r.1) 1234 382 = fun _ => r.1 := by rw [upA_s]
      simp (disch := (first | assumption | omega | exact Nat.le_of_ble_eq_true rfl | rfl)) only [w274_61, w274_62, w274_63, w274_66, w274_69, w274_70, w274_71, w274_74, w274_77, w274_78, Ko_n, Ko_v, vX_i, vX_r, vX_l, vX_j, reduceIte, g1, g2, upA_t]
      generalize upA (upA τ1 1233 382 fun _ => r.2.1) 1234 382 (fun _ => r.1) = τ2 at o3 f3 g33 g34 ⊢
      have loop : ∀ (q i : Nat) (G : Int → Int), i + q = n → (∀ j : Nat, j < i → G j = ordL p j) → Wp (d + 0 + 6) M_X12_goesOrders 80 [.ref 382, .int (i32 w), .int (i32 n), .int (i32 u), .int (i32 i)] [] (E T (upA τ2 1229 382 G)) Q := by
        intro q
        induction q with
        | zero =>
          intro i G hi hG
          have hi : i = n := by omega
          subst hi
          rw [w274_80]
          simp (disch := (first | assumption | omega | exact Nat.le_of_ble_eq_true rfl | rfl)) only [w274_82, w274_83, w274_86, w274_87, w274_90, w274_92, w274_93, w274_96, w274_98, w274_99, w274_100, w274_103, w274_106, Ko_n, Ko_v, vX_i, vX_r, vX_l, vX_j, reduceIte, Int.le_refl]
          refine hQ _ (fr74_u f3 (by omega)) (fun i hi => by rw [upA_t (by omega), o3]; exact ho i hi) ⟨⟨by rw [upA_t (by omega)]; exact g33, ?_⟩, fun _ => ⟨by rw [upA_t (by omega)]; exact g34, ?_, fun i hi => by rw [upA_s]; exact hG i hi⟩⟩
          · show -1 ≤ r.2.1 ∧ r.2.1 ≤ 4; omega
          · show 0 ≤ r.1 ∧ r.1 ≤ 40000; omega
        | succ q ih =>
          intro i G hi hG
          have ih' := ih (i + 1) (fu G i (τ 1228 382 i)) (by omega) (fun j hj => by
            by_cases ej : j = i
            · rw [ej, fu_s]; exact ho i (by omega)
            · rw [fu_n (by omega)]; exact hG j (by omega))
          rw [show ((i + 1 : Nat) : Int) = (i : Int) + 1 by omega] at ih'
          rw [w274_80]
          simp (disch := (first | assumption | omega | exact Nat.le_of_ble_eq_true rfl | rfl)) only [w274_82, w274_83, w274_86, w274_87, w274_90, w274_92, w274_93, w274_96, w274_98, w274_99, w274_100, w274_103, w274_106, Ko_n, Ko_v, vX_i, vX_r, vX_l, vX_j, reduceIte, show ¬ (n : Int) ≤ (i : Int) by omega, upA_t, o3, upA_s, upA_upA]
          exact ih'
      have l0 := loop n 0 (τ2 1229 382) (by omega) (fun j hj => by omega)
      rw [upA_self] at l0
      exact l0
    obtain ⟨⟨b11, b12⟩, b13⟩ := b1
    by_cases e1 : x.1 = -1
    · simp (disch := (first | assumption | omega | exact Nat.le_of_ble_eq_true rfl | rfl)) only [w274_19, w274_20, w274_23, w274_24, w274_27, w274_28, w274_31, w274_32, w274_35, w274_38, w274_39, w274_42, w274_43, w274_46, w274_49, w274_50, w274_53, w274_54, w274_57, w274_60, Ko_n, Ko_v, vX_i, vX_r, vX_l, vX_j, reduceIte, b11, e1]
      exact yes (Or.inl e1) _
    · obtain ⟨c1, c2, c3⟩ := b13 e1
      by_cases e2 : x.1 < r.2.1
      · simp (disch := (first | assumption | omega | exact Nat.le_of_ble_eq_true rfl | rfl)) only [w274_19, w274_20, w274_23, w274_24, w274_27, w274_28, w274_31, w274_32, w274_35, w274_38, w274_39, w274_42, w274_43, w274_46, w274_49, w274_50, w274_53, w274_54, w274_57, w274_60, Ko_n, Ko_v, vX_i, vX_r, vX_l, vX_j, reduceIte, b11, e1, g2, e2]
        exact no (by omega)
      · by_cases e3 : r.2.1 = x.1
        · by_cases e4 : r.1 < x.2.1
          · simp (disch := (first | assumption | omega | exact Nat.le_of_ble_eq_true rfl | rfl)) only [w274_19, w274_20, w274_23, w274_24, w274_27, w274_28, w274_31, w274_32, w274_35, w274_38, w274_39, w274_42, w274_43, w274_46, w274_49, w274_50, w274_53, w274_54, w274_57, w274_60, Ko_n, Ko_v, vX_i, vX_r, vX_l, vX_j, reduceIte, b11, e1, g2, e2, e3, not_true, g1, c1, e4, Int.lt_irrefl]
            exact yes (Or.inr (Or.inr ⟨e3, e4⟩)) _
          · simp (disch := (first | assumption | omega | exact Nat.le_of_ble_eq_true rfl | rfl)) only [w274_19, w274_20, w274_23, w274_24, w274_27, w274_28, w274_31, w274_32, w274_35, w274_38, w274_39, w274_42, w274_43, w274_46, w274_49, w274_50, w274_53, w274_54, w274_57, w274_60, Ko_n, Ko_v, vX_i, vX_r, vX_l, vX_j, reduceIte, b11, e1, g2, e2, e3, not_true, g1, c1, e4, Int.lt_irrefl]
            exact no (by omega)
        · simp (disch := (first | assumption | omega | exact Nat.le_of_ble_eq_true rfl | rfl)) only [w274_19, w274_20, w274_23, w274_24, w274_27, w274_28, w274_31, w274_32, w274_35, w274_38, w274_39, w274_42, w274_43, w274_46, w274_49, w274_50, w274_53, w274_54, w274_57, w274_60, Ko_n, Ko_v, vX_i, vX_r, vX_l, vX_j, reduceIte, b11, e1, g2, e2, e3, not_false_eq_true]
          exact yes (Or.inr (Or.inl (by omega))) _
  | succ f ihf =>
    intro d k u m p x T τ Q hm hp hpi hu hK ho hb hQ
    subst hm
    have lE : lvs n (f + 1) p u = lvF (fun e => if frB u e then [] else lvs n f (p ++ [(e : Int)]) (oo u (sl 1 e))) n 0 := rfl
    rw [lE] at hQ
    rw [n274 _ _ _ _ _ _ _ _ _ h0]
    have loop : ∀ (q e : Nat) (x : Bo) (τ1 : St), e + q = n → fr74 τ τ1 → (∀ i : Nat, i < p.length → τ1 1228 382 i = ordL p i) → bsR τ1 x n → (∀ τ', fr74 τ τ' → (∀ i : Nat, i < p.length → τ' 1228 382 i = ordL p i) → bsR τ' ((lvF (fun e => if frB u e then [] else lvs n f (p ++ [(e : Int)]) (oo u (sl 1 e))) q e).foldl (btS K w n) x) n → Q (.inl none) (E T τ')) → Wp (d + (f + 1) + 6) M_X12_goesOrders 110 [.ref 382, .int (i32 w), .int (i32 (p.length : Nat)), .int (i32 u), .int (i32 e)] [] (E T τ1) Q := by
      intro q
      induction q with
      | zero =>
        intro e x τ1 he f1 o1 b1 hk
        have he : e = n := by omega
        subst he
        have kT : τ1 1200 382 = K := by rw [f1 1200 382 (by omega)]; exact hK
        rw [w274_110]
        simp (disch := (first | assumption | omega | exact Nat.le_of_ble_eq_true rfl | rfl)) only [w274_112, w274_113, w274_116, w274_118, w274_119, w274_120, w274_121, w274_124, w274_125, w274_127, w274_130, w274_133, w274_136, w274_137, w274_140, w274_141, w274_143, w274_144, w274_145, w274_146, w274_147, w274_148, w274_149, w274_150, w274_151, w274_153, w274_154, w274_155, w274_158, w274_161, w274_164, Ko_n, Ko_v, vX_i, vX_r, vX_l, vX_j, reduceIte, kT, hn, Int.le_refl]
        exact hk τ1 f1 o1 b1
      | succ q ih =>
        intro e x τ1 he f1 o1 b1 hk
        have kT : τ1 1200 382 = K := by rw [f1 1200 382 (by omega)]; exact hK
        have lF : lvF (fun e => if frB u e then [] else lvs n f (p ++ [(e : Int)]) (oo u (sl 1 e))) (q + 1) e = (if frB u e then [] else lvs n f (p ++ [(e : Int)]) (oo u (sl 1 e))) ++ lvF (fun e => if frB u e then [] else lvs n f (p ++ [(e : Int)]) (oo u (sl 1 e))) q (e + 1) := rfl
        rw [lF, List.foldl_append] at hk
        have e4 : e < 4 := by omega
        rw [w274_110]
        simp (disch := (first | assumption | omega | exact Nat.le_of_ble_eq_true rfl | rfl)) only [w274_112, w274_113, w274_116, w274_118, w274_119, w274_120, w274_121, w274_124, w274_125, w274_127, Ko_n, Ko_v, vX_i, vX_r, vX_l, vX_j, reduceIte, kT, show ¬ K (93 + w) ≤ (e : Int) by omega]
        rw [c177 (by omega) (by omega) (by omega) (by omega) (by omega)]
        cases ef : frB u e with
        | true =>
          rw [ef, if_pos rfl] at hk
          have i2 := ih (e + 1) x τ1 (by omega) f1 o1 b1 hk
          rw [show ((e + 1 : Nat) : Int) = (e : Int) + 1 by omega] at i2
          simp (disch := (first | assumption | omega | exact Nat.le_of_ble_eq_true rfl | rfl)) only [w274_130, w274_133, w274_136, w274_137, w274_140, w274_141, w274_143, w274_144, w274_145, w274_146, w274_147, w274_148, w274_149, w274_150, w274_151, w274_153, w274_154, w274_155, w274_158, w274_161, Ko_n, Ko_v, vX_i, vX_r, vX_l, vX_j, reduceIte, if_true, Int.reduceEq]
          exact i2
        | false =>
          rw [ef, if_neg Bool.false_ne_true] at hk
          have uu := oo_16 ⟨u.toNat, by omega⟩ ⟨e, e4⟩
          dsimp only at uu
          rw [show ((u.toNat : Nat) : Int) = u by omega] at uu
          have ps : (p ++ [(e : Int)]).length = p.length + 1 := by simp
          simp (disch := (first | assumption | omega | exact Nat.le_of_ble_eq_true rfl | rfl)) only [w274_130, w274_133, w274_136, w274_137, w274_140, w274_141, w274_143, w274_144, w274_145, w274_146, w274_147, w274_148, w274_149, w274_150, w274_151, w274_153, w274_154, w274_155, Ko_n, Ko_v, vX_i, vX_r, vX_l, vX_j, reduceIte, Bool.false_eq_true, if_false]
          conv => arg 1; rw [show d + (f + 1) + 5 = d + f + 6 by omega]
          refine ihf d _ (oo u (sl 1 e)) _ (p ++ [(e : Int)]) x T _ _ (by rw [ps]; omega) (by rw [ps]; omega) (fun i hi => ?_) uu (by rw [upA_t (by omega)]; exact kT) (fun i hi => ?_) (bsR_t b1 (upA_t (by omega)) (upA_t (by omega)) (upA_t (by omega))) fun τ' f2 o2 b2 => ?_
          · rw [ps] at hi
            by_cases ei : i = p.length
            · rw [ei, ordL_at]; omega
            · rw [ordL_lt (by omega)]; exact hpi i (by omega)
          · rw [ps] at hi
            rw [upA_s]
            by_cases ei : i = p.length
            · rw [ei, fu_s, ordL_at]
            · rw [fu_n (by omega), ordL_lt (by omega)]; exact o1 i (by omega)
          · have i2 := ih (e + 1) _ τ' (by omega) (fr74_t (fr74_u f1 (by omega)) f2) (fun i hi => by rw [o2 i (by rw [ps]; omega), ordL_lt hi]) b2 hk
            rw [show ((e + 1 : Nat) : Int) = (e : Int) + 1 by omega] at i2
            simp (disch := (first | assumption | omega | exact Nat.le_of_ble_eq_true rfl | rfl)) only [w274_158, w274_161, Ko_n, Ko_v, vX_i, vX_r, vX_l, vX_j, reduceIte]
            exact i2
    have l0 := loop n 0 x τ (by omega) fr74_r ho hb hQ
    simp (disch := (first | assumption | omega | exact Nat.le_of_ble_eq_true rfl | rfl)) only [w274_0, w274_1, w274_2, w274_5, w274_7, w274_8, w274_9, w274_10, Ko_n, Ko_v, vX_i, vX_r, vX_l, vX_j, reduceIte, hK, show ¬ ((p.length : Nat) : Int) = K (93 + w) by omega, not_false_eq_true]
    simp (disch := (first | assumption | omega | exact Nat.le_of_ble_eq_true rfl | rfl)) only [w274_107, w274_108, Ko_n, Ko_v, vX_i, vX_r, vX_l, vX_j, reduceIte]
    exact l0

def boK (K : Int → Int) (w : Int) : Bo := (lvs (K (93 + w)).toNat (K (93 + w)).toNat [] 0).foldl (btS K w (K (93 + w)).toNat) (-1, 0, fun _ => 0)
theorem btS_ne {K : Int → Int} {w : Int} {n : Nat} (h : ∀ p, 0 ≤ (rdK K w (ordL p) n).2.1) : ∀ (l : List (List Int)) (x : Bo), (x.1 ≠ -1 ∨ l ≠ []) → (l.foldl (btS K w n) x).1 ≠ -1
  | [], x, hx => by
    rcases hx with hx | hx
    · exact hx
    · exact absurd rfl hx
  | p :: l, x, _ => by
    rw [List.foldl_cons]
    refine btS_ne h l _ (Or.inl ?_)
    have hp := h p
    unfold btS
    by_cases e : x.1 = -1 ∨ (rdK K w (ordL p) n).2.1 < x.1 ∨ ((rdK K w (ordL p) n).2.1 = x.1 ∧ (rdK K w (ordL p) n).1 < x.2.1)
    · rw [if_pos e]; show (rdK K w (ordL p) n).2.1 ≠ -1; omega
    · rw [if_neg e]; exact fun t => e (Or.inl t)
theorem lvs_ne : ∀ n : Nat, n ≤ 4 → lvs n n [] 0 ≠ [] := by
  intro n hn
  have hc : n = 0 ∨ n = 1 ∨ n = 2 ∨ n = 3 ∨ n = 4 := by omega
  rcases hc with rfl | rfl | rfl | rfl | rfl <;> decide
theorem rd_lt0 {lg du o : Int → Int} {st : Int} : ∀ n : Nat, 0 ≤ (rdI lg du st o n).2.1
  | 0 => Int.le_refl 0
  | n + 1 => by
    have ih := rd_lt0 (lg := lg) (du := du) (o := o) (st := st) n
    simp only [rdI]
    unfold rdS1
    dsimp only
    repeat' split
    all_goals first | exact ih | (show 0 ≤ (rdI lg du st o n).2.1 + 1; omega)
theorem c275 {d : Nat} {k w wh B : Int} {K : Int → Int} {T : Tt} {σ : St} {Q : vmO → vmH → Prop} (hK : σ 1200 382 = K) (hv : kV K B) (hB : B < 900000000) (x0 : -2147483648 ≤ w) (x1 : w < 2147483648) (y0 : -2147483648 ≤ wh) (y1 : wh < 2147483648)
    (hQ1 : ∀ u, ((¬ (0 ≤ w ∧ w < K 3) ∧ u = 1) ∨ ((0 ≤ w ∧ w < K 3) ∧ ¬ boV wh ∧ u = 2)) → ∀ τ, fT σ τ → τ 1200 382 = K → τ 1204 382 0 = u → Q (.inl (some (.int (i32 0)))) (E T τ))
    (hQ2 : (0 ≤ w ∧ w < K 3) → boV wh → ∀ τ, fT σ τ → τ 1200 382 = K → τ 1204 382 0 = 0 → Q (.inl (some (.int (i32 (boA (boK K w) (K (93 + w)).toNat wh))))) (E T τ)) : Ca (d + 12) k 275 [.ref 382, .int (i32 w), .int (i32 wh)] (E T σ) Q := by
  have h0 := ob_md
  have kU : ∀ u, (upA σ 1204 382 fun _ => u) 1200 382 = K := fun u => by rw [upA_t (by omega)]; exact hK
  have fU : ∀ u, fT σ (upA σ 1204 382 fun _ => u) := fun u => fT_u fT_r (by omega)
  have sU : ∀ u, (upA σ 1204 382 fun _ => u) 1204 382 0 = u := fun u => by rw [upA_s]
  rw [n275 _ _ _ _ _ _ _ _ h0]
  simp (disch := (first | assumption | omega | exact Nat.le_of_ble_eq_true rfl | rfl)) only [w275_0, w275_1, w275_2, w275_3, w275_4, Ko_n, Ko_v, vX_i, vX_r, vX_l, vX_j, reduceIte]
  rw [c215 hK hv (by omega) (by omega)]
  by_cases a : 0 ≤ w ∧ w < K 3
  · have go : boV wh → Wp (d + 12) M_X12_bestOrder 38 [.ref 382, .int (i32 w), .int (i32 wh)] [.ref 382] (E T σ) Q := by
      intro b
      obtain ⟨en, ee⟩ := kV_e hv a.1 a.2
      have w5 := (kV_w hv a.1 a.2).2.1
      have hq := hQ2 a b
      simp (disch := (first | assumption | omega | exact Nat.le_of_ble_eq_true rfl | rfl)) only [w275_38, w275_39, w275_42, w275_43, w275_46, w275_47, w275_50, w275_53, w275_54, w275_55, w275_56, w275_57, w275_60, w275_61, w275_62, w275_63, w275_64, Ko_n, Ko_v, vX_i, vX_r, vX_l, vX_j, reduceIte, upA_s, Int.le_refl]
      conv => arg 1; rw [show d + 11 = (d + 5 - (K (93 + w)).toNat) + (K (93 + w)).toNat + 6 by omega]
      refine c274 (n := (K (93 + w)).toNat) hv hB a.1 a.2 (by omega) (K (93 + w)).toNat (d + 5 - (K (93 + w)).toNat) _ 0 0 [] (-1, 0, fun _ => 0) T _ _ rfl (by simp) (fun i hi => absurd hi (Nat.not_lt_zero i)) (by omega) (by rw [upA_t (by omega)]; exact kU 0) (fun i hi => absurd hi (Nat.not_lt_zero i)) ⟨⟨by rw [upA_s], by omega⟩, fun e => absurd rfl e⟩ fun τ f1 _ b1 => ?_
      have ne := btS_ne (K := K) (w := w) (n := (K (93 + w)).toNat) (fun p => rd_lt0 _) (lvs (K (93 + w)).toNat (K (93 + w)).toNat [] 0) (-1, 0, fun _ => 0) (Or.inr (lvs_ne _ (by omega)))
      have kt : τ 1200 382 = K := by rw [f1 1200 382 (by omega), upA_t (by omega)]; exact kU 0
      have ft : fT σ τ := fun t o ht => by
        rw [f1 t o (by omega), upA_t (by omega)]
        exact fU 0 t o ht
      have st : τ 1204 382 0 = 0 := by
        rw [f1 1204 382 (by omega), upA_t (by omega)]
        exact sU 0
      have q := hq τ ft kt st
      unfold boK boA at q
      generalize (lvs (K (93 + w)).toNat (K (93 + w)).toNat [] 0).foldl (btS K w (K (93 + w)).toNat) (-1, 0, fun _ => 0) = x at b1 ne q
      obtain ⟨⟨c1, c2⟩, c3⟩ := b1
      obtain ⟨c4, c5, c6⟩ := c3 ne
      unfold boV at b
      by_cases e0 : wh = 0
      · rw [if_pos e0] at q
        simp (disch := (first | assumption | omega | exact Nat.le_of_ble_eq_true rfl | rfl)) only [w275_67, w275_68, w275_69, w275_72, w275_73, w275_76, w275_77, w275_80, w275_83, w275_84, w275_87, w275_88, w275_89, Ko_n, Ko_v, vX_i, vX_r, vX_l, vX_j, reduceIte, e0, not_true, c1, show ¬ (2 : Int) ≤ 0 by omega]
        exact q
      · rw [if_neg e0] at q
        by_cases e1 : wh = 1
        · rw [if_pos e1] at q
          simp (disch := (first | assumption | omega | exact Nat.le_of_ble_eq_true rfl | rfl)) only [w275_67, w275_68, w275_69, w275_72, w275_73, w275_76, w275_77, w275_80, w275_83, w275_84, w275_87, w275_88, w275_89, Ko_n, Ko_v, vX_i, vX_r, vX_l, vX_j, reduceIte, e1, show ¬ (2 : Int) ≤ 1 by omega, Int.reduceEq, not_false_eq_true, c4]
          exact q
        · rw [if_neg e1] at q
          by_cases e2 : wh - 10 < ((K (93 + w)).toNat : Nat)
          · rw [if_pos e2] at q
            have c7 := c6 (wh - 10).toNat (by omega)
            rw [show (((wh - 10).toNat : Nat) : Int) = wh - 10 by omega] at c7
            simp (disch := (first | assumption | omega | exact Nat.le_of_ble_eq_true rfl | rfl)) only [w275_67, w275_68, w275_69, w275_72, w275_73, w275_76, w275_77, w275_80, w275_83, w275_84, w275_87, w275_88, w275_89, w275_91, w275_92, w275_93, w275_96, w275_98, w275_99, w275_100, w275_101, w275_104, w275_105, w275_108, w275_109, w275_111, w275_112, w275_113, w275_116, w275_117, Ko_n, Ko_v, vX_i, vX_r, vX_l, vX_j, reduceIte, show (2 : Int) ≤ wh by omega, kt, show ¬ K (93 + w) ≤ wh - 10 by omega, c7]
            exact q
          · rw [if_neg e2] at q
            simp (disch := (first | assumption | omega | exact Nat.le_of_ble_eq_true rfl | rfl)) only [w275_67, w275_68, w275_69, w275_72, w275_73, w275_76, w275_77, w275_80, w275_83, w275_84, w275_87, w275_88, w275_89, w275_91, w275_92, w275_93, w275_96, w275_98, w275_99, w275_100, w275_101, w275_104, w275_105, w275_108, w275_109, w275_111, w275_112, w275_113, w275_116, w275_117, Ko_n, Ko_v, vX_i, vX_r, vX_l, vX_j, reduceIte, show (2 : Int) ≤ wh by omega, kt, show K (93 + w) ≤ wh - 10 by omega]
            exact q
    simp (disch := (first | assumption | omega | exact Nat.le_of_ble_eq_true rfl | rfl)) only [w275_7, w275_10, w275_11, w275_14, w275_15, w275_16, w275_17, w275_18, Ko_n, Ko_v, vX_i, vX_r, vX_l, vX_j, reduceIte, a, and_self, Int.reduceEq, not_false_eq_true]
    rw [c176 (by omega) (by omega) (by omega) (by omega) (by omega) (by omega) (by omega)]
    by_cases b1 : 0 ≤ wh ∧ wh ≤ 1
    · simp (disch := (first | assumption | omega | exact Nat.le_of_ble_eq_true rfl | rfl)) only [w275_21, w275_24, w275_25, w275_26, w275_29, w275_32, w275_35, Ko_n, Ko_v, vX_i, vX_r, vX_l, vX_j, reduceIte, b1, and_self, Int.reduceEq, not_false_eq_true]
      exact go (by unfold boV; omega)
    · simp (disch := (first | assumption | omega | exact Nat.le_of_ble_eq_true rfl | rfl)) only [w275_21, w275_24, w275_25, w275_26, w275_29, w275_32, Ko_n, Ko_v, vX_i, vX_r, vX_l, vX_j, reduceIte, b1, not_true]
      rw [c176 (by omega) (by omega) (by omega) (by omega) (by omega) (by omega) (by omega)]
      by_cases b2 : 10 ≤ wh ∧ wh ≤ 13
      · simp (disch := (first | assumption | omega | exact Nat.le_of_ble_eq_true rfl | rfl)) only [w275_35, Ko_n, Ko_v, vX_i, vX_r, vX_l, vX_j, reduceIte, b2, and_self, Int.reduceEq]
        exact go (by unfold boV; omega)
      · simp (disch := (first | assumption | omega | exact Nat.le_of_ble_eq_true rfl | rfl)) only [w275_35, w275_38, w275_39, w275_42, w275_43, w275_46, w275_47, w275_50, w275_53, w275_54, Ko_n, Ko_v, vX_i, vX_r, vX_l, vX_j, reduceIte, b2, upA_s, show ¬ (2 : Int) ≤ 0 by omega]
        exact hQ1 2 (Or.inr ⟨a, by unfold boV; omega, rfl⟩) _ (fU _) (kU _) (sU _)
  · simp (disch := (first | assumption | omega | exact Nat.le_of_ble_eq_true rfl | rfl)) only [w275_7, w275_10, w275_11, w275_14, w275_15, w275_16, w275_17, w275_18, w275_21, w275_24, w275_25, w275_26, w275_29, w275_32, w275_35, w275_38, w275_39, w275_42, w275_43, w275_46, w275_47, w275_50, w275_53, w275_54, Ko_n, Ko_v, vX_i, vX_r, vX_l, vX_j, reduceIte, a, not_true, upA_s, show ¬ (1 : Int) ≤ 0 by omega]
    exact hQ1 1 (Or.inl ⟨a, rfl⟩) _ (fU _) (kU _) (sU _)
