/-! ===== cell, walker, hedges, thickness, count: class and reference ===== -/
theorem ceE {σ : St} {K : Int → Int} {B z wh : Int} (ht : tie σ 2 K) (hv : kV K B) (z0 : 0 ≤ z) (z1 : z < K 1 * K 2) : ceA σ (K 1) (K 2) (K 5).toNat z wh = ceR K z wh := by
  have hm := wh_mul0 hv.1.1
  have z36 : z < 36 := by omega
  have ek := tsc_k ht.2.1 z z0 z36
  have et := tsc_t ht.2.1 z z0 z36
  have ek' : σ 700 10 z = K (7 + z) := ek
  have et' : σ 701 10 z = K (43 + z) := by
    rw [et]; show K (7 + 36 + z) = K (43 + z)
    congr 1
  have kc := (kV_c hv.2.1 (z := z) z0 z36).1
  unfold ceA ceR
  by_cases e0 : wh = 0
  · rw [if_pos e0, if_pos e0]; exact ek'
  rw [if_neg e0, if_neg e0]
  by_cases e1 : wh = 1
  · rw [if_pos e1, if_pos e1]; exact et'
  rw [if_neg e1, if_neg e1]
  by_cases e2 : wh = 2
  · rw [if_pos e2, if_pos e2]
    unfold prc cst cfR hcR
    rw [ek', et', show σ 403 3 0 = K 4 from ht.1.2.2.2.2.1, tk90 ht]
    by_cases e4 : K (7 + z) = 4
    · rw [if_pos e4, if_pos e4]
    · rw [if_neg e4, if_neg e4, if_neg (show ¬ ((-1 : Int) ≠ -1 ∧ frB (K 92) (-1) = true) from fun t => t.1 rfl)]
      by_cases e5 : K (7 + z) = 0
      · rw [if_pos (Or.inr e5), show hgB (kdK K 7) z = false from decide_eq_false (fun t => t.2.2.1 e5)]; rfl
      · rw [if_neg (show ¬ (false = true ∨ K (7 + z) = 0) from fun t => by rcases t with t | t; exact Bool.noConfusion t; exact e5 t), show hgB (kdK K 7) z = true from decide_eq_true ⟨z0, z36, e5, e4⟩]; rfl
  rw [if_neg e2, if_neg e2]
  by_cases e3 : wh = 3
  · rw [if_pos e3, if_pos e3, grE ht.1 ht.2.1 hv z0 z36]
  rw [if_neg e3, if_neg e3, tk3 ht]
  unfold waK
  exact wa_cg _ (fun j hj => tkp ht (by omega) (by omega))
theorem k117 {d : Nat} {k z wh B : Int} {K : Int → Int} {T : Tt} {σ : St} {Q : vmO → vmH → Prop} (ht : tie σ 2 K) (hv : kV K B) (hB : B < 900000000) (z0 : -2147483648 ≤ z) (z1 : z < 2147483648) (y0 : -2147483648 ≤ wh) (y1 : wh < 2147483648)
    (hQ1 : ¬ (0 ≤ z ∧ z < K 1 * K 2) → Q (.inr 0) (E (thr T) σ))
    (hQ2 : (0 ≤ z ∧ z < K 1 * K 2) → ¬ (0 ≤ wh ∧ wh ≤ 4) → Q (.inr 1) (E (thr T) σ))
    (hQ3 : (0 ≤ z ∧ z < K 1 * K 2) → (0 ≤ wh ∧ wh ≤ 4) → ∀ τ, sg σ τ → Q (.inl (some (.int (i32 (ceR K z wh))))) (E T τ)) : Ca (d + 10) k 117 [.ref 0, .int (i32 z), .int (i32 wh)] (E T σ) Q := by
  have hN := nK_c hv.1
  refine c117 (tie_hp ht hv (by omega)) (tie_hpL ht hv) z0 z1 y0 y1 (fun a => hQ1 (by rw [← hN]; exact a)) (fun a b => hQ2 ⟨a, by rw [← hN]; exact b⟩) (fun a b c e τ hs => ?_)
  rw [hN] at b
  rw [ceE ht hv a b]
  exact hQ3 ⟨a, b⟩ ⟨c, e⟩ τ hs
theorem wkE2 {σ : St} {K : Int → Int} {B w wh : Int} (ht : tie σ 2 K) (hv : kV K B) (w0 : 0 ≤ w) (w1 : w < K 3) (hw : whV wh) : wkA σ w wh = wkR K w wh := by
  have h5 := (kV_w hv w0 w1).2.1
  have e6 : σ 406 3 w = K (93 + w) := ht.1.2.2.2.2.2.2.2.1 w w0 h5
  have ag := ((tsc_W.mp ht.2.1).2.1 w w0 w1).2
  unfold wkA wkR
  rw [tkp ht w0 w1, ag, show σ 405 3 0 = K 92 from ht.1.2.2.2.2.2.2.1, e6]
  unfold whV at hw
  by_cases e0 : wh = 0
  · rw [if_pos e0, if_pos e0]
  rw [if_neg e0, if_neg e0]
  by_cases e1 : wh = 1
  · rw [if_pos e1, if_pos e1]
  rw [if_neg e1, if_neg e1]
  by_cases e2 : wh = 2
  · rw [if_pos e2, if_pos e2]
  rw [if_neg e2, if_neg e2]
  by_cases e3 : wh = 3
  · rw [if_pos e3, if_pos e3]
  rw [if_neg e3, if_neg e3]
  by_cases e4 : wh % 10 < K (93 + w)
  · rw [if_pos e4, if_pos e4]
    have a := ht.1.2.2.2.2.2.2.2.2.1 w (wh % 10) w0 h5 (by omega) e4
    rw [a.1, a.2]
  · rw [if_neg e4, if_neg e4]
theorem k118 {d : Nat} {k w wh B : Int} {K : Int → Int} {T : Tt} {σ : St} {Q : vmO → vmH → Prop} (ht : tie σ 2 K) (hv : kV K B) (hB : B < 900000000) (x0 : -2147483648 ≤ w) (x1 : w < 2147483648) (y0 : -2147483648 ≤ wh) (y1 : wh < 2147483648)
    (hQ1 : ¬ (0 ≤ w ∧ w < K 3) → Q (.inr 0) (E (thr T) σ))
    (hQ2 : (0 ≤ w ∧ w < K 3) → ¬ whV wh → Q (.inr 1) (E (thr T) σ))
    (hQ3 : (0 ≤ w ∧ w < K 3) → whV wh → Q (.inl (some (.int (i32 (wkR K w wh))))) (E T σ)) : Ca (d + 10) k 118 [.ref 0, .int (i32 w), .int (i32 wh)] (E T σ) Q := by
  have e3 := tk3 ht
  refine c118 (tie_hp ht hv (by omega)) (tie_hpE ht hv) x0 x1 y0 y1 (fun a => hQ1 (by rw [← e3]; exact a)) (fun a b => hQ2 ⟨a, by rw [← e3]; exact b⟩) (fun a b c => ?_)
  rw [e3] at b
  rw [wkE2 ht hv a b c]
  exact hQ3 ⟨a, b⟩ c
theorem hgA {σ : St} {K : Int → Int} (ht : tie σ 2 K) : hgB (σ 700 10) = hgB (kdK K 7) := by
  funext k
  unfold hgB
  by_cases h : 0 ≤ k ∧ k < 36
  · rw [tsc_k ht.2.1 k h.1 h.2]
  · rw [decide_eq_false (fun t => h ⟨t.1, t.2.1⟩), decide_eq_false (fun t => h ⟨t.1, t.2.1⟩)]
theorem k119 {d : Nat} {k B : Int} {K : Int → Int} {T : Tt} {σ : St} {Q : vmO → vmH → Prop} (ht : tie σ 2 K) (hv : kV K B) (hB : B < 900000000) : Ca (d + 2) k 119 [.ref 0] (E T σ) Q = Q (.inl (some (.long (bs (hgB (kdK K 7)))))) (E T σ) := by
  rw [c119 (tsc_sc ht.2.1 hv.2.1 (by omega)).1, hgA ht]
theorem smI_cg {f f' : Int → Int} : ∀ n : Nat, (∀ k : Nat, k < n → f k = f' k) → smI f n = smI f' n
  | 0, _ => rfl
  | n + 1, h => by
    simp only [smI]
    rw [smI_cg n (fun k hk => h k (by omega)), h n (by omega)]
theorem k120 {d : Nat} {k B : Int} {K : Int → Int} {T : Tt} {σ : St} {Q : vmO → vmH → Prop} (ht : tie σ 2 K) (hv : kV K B) (hB : B < 900000000) : Ca d k 120 [.ref 0] (E T σ) Q = Q (.inl (some (.int (i32 (smI (tkK K 7) 36))))) (E T σ) := by
  rw [c120 (tsc_sc ht.2.1 hv.2.1 (by omega)).2.1, smI_cg 36 (fun k hk => tsc_t ht.2.1 k (by omega) (by omega))]
theorem cnt_co {p q : Int → Bool} : ∀ n : Nat, (∀ k : Nat, k < n → q k = !p k) → cnt p n + cnt q n = n
  | 0, _ => rfl
  | n + 1, h => by
    have ih := cnt_co n (fun k hk => h k (by omega))
    have hn := h n (by omega)
    show (cnt p n + if p n then 1 else 0) + (cnt q n + if q n then 1 else 0) = ((n + 1 : Nat) : Int)
    rw [hn]
    cases p n
    · show cnt p n + 0 + (cnt q n + 1) = _; omega
    · show cnt p n + 1 + (cnt q n + 0) = _; omega
theorem ctE {σ : St} {K : Int → Int} {B z : Int} (ht : tie σ 2 K) (hv : kV K B) : ctC σ (K 1) (K 2) z = ctR K (σ 1101 0 0) z := by
  have hS := tsc_W.mp ht.2.1
  have hm := wh_mul0 hv.1.1
  have hN := nK_c hv.1
  unfold ctC ctR
  rw [show σ 400 3 0 = K 0 from ht.1.1, tk3 ht, tk90 ht, tk89 ht, hS.2.2.2.2, hgA ht, show σ 804 2 0 = K 6 from ht.2.2.1, show σ 403 3 0 = K 4 from ht.1.2.2.2.2.1]
  have e11 : K 1 * K 2 - cnt (opB (σ 700 10) (K 1 * K 2)) 64 = cnt (fun z => decide (K (7 + z) = 4)) (nK K) := by
    have lim := cnt_lim (p := fun z => decide (0 ≤ z ∧ K (7 + z) ≠ 4)) (N := K 1 * K 2) (by omega) 64 (by omega)
    have e1 : cnt (opB (σ 700 10) (K 1 * K 2)) 64 = cnt (fun z => decide (0 ≤ z ∧ K (7 + z) ≠ 4) && decide (z < K 1 * K 2)) 64 := cnt_cg 64 (fun k hk => by
      rw [opB_agr (f' := kdK K 7) (by omega) (tsc_k ht.2.1)]
      unfold opB kdK
      rw [Bool.eq_iff_iff, Bool.and_eq_true, decide_eq_true_iff, decide_eq_true_iff, decide_eq_true_iff]
      exact ⟨fun t => ⟨⟨t.1, t.2.2⟩, t.2.1⟩, fun t => ⟨t.1.1, t.2, t.1.2⟩⟩)
    have co := cnt_co (p := fun z => decide (0 ≤ z ∧ K (7 + z) ≠ 4)) (q := fun z => decide (K (7 + z) = 4)) (nK K) (fun k hk => by
      by_cases e : K (7 + k) = 4
      · show decide (K (7 + k) = 4) = !decide (0 ≤ (k : Int) ∧ K (7 + k) ≠ 4)
        rw [decide_eq_true e, decide_eq_false (fun t => t.2 e)]; rfl
      · show decide (K (7 + k) = 4) = !decide (0 ≤ (k : Int) ∧ K (7 + k) ≠ 4)
        rw [decide_eq_false e, decide_eq_true (⟨by omega, e⟩ : 0 ≤ (k : Int) ∧ K (7 + k) ≠ 4)]; rfl)
    have en : (K 1 * K 2).toNat = nK K := rfl
    rw [e1, lim, en]
    omega
  rw [e11]
theorem k162 {d : Nat} {k z B : Int} {K : Int → Int} {T : Tt} {σ : St} {Q : vmO → vmH → Prop} (ht : tie σ 2 K) (hv : kV K B) (hB : B < 900000000) (z0 : -2147483648 ≤ z) (z1 : z < 2147483648) : Ca (d + 2) k 162 [.ref 0, .int (i32 z)] (E T σ) Q = Q (.inl (some (.int (i32 (ctR K (σ 1101 0 0) z))))) (E T σ) := by
  have k90 : 0 ≤ K 90 ∧ K 90 ≤ B := hv.2.1.2.2.2.1
  have e90 := tk90 ht
  have e4 : σ 403 3 0 = K 4 := ht.1.2.2.2.2.1
  have v4 := hv.1.2.2.1
  rw [c162 (W := K 1) (H := K 2) ht.1.2.1 ht.1.2.2.1 hv.1.1 (tsc_sc ht.2.1 hv.2.1 (by omega)).1 (by omega) (by omega) (by omega) (by omega) z0 z1, ctE ht hv]
