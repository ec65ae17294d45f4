/-! ===== nights ahead: class and reference ===== -/
theorem prN_a {σ : St} {K : Int → Int} {B w : Int} (ht : tie σ 2 K) (hv : kV K B) (n : Nat) : agr 36 (prN σ (K 1) (K 2) (nK K) (K 5).toNat w n) (prK (ngI K n) w) := fun j j0 j1 => by
  have hS := tsc_W.mp ht.2.1
  have e90 : σ 705 10 0 = K 90 := hS.2.2.2.1
  have ne := (ngI_E (kd := σ 700 10) (tk := σ 701 10) (cd := σ 300 7) hv.1 (nK_c hv.1) (tsc_k ht.2.1) (tsc_t ht.2.1) (fun i hi => by
    have hi2 : (i : Int) < K 5 := by omega
    exact ht.1.2.2.2.2.2.2.2.2.2.2 i (by omega) hi2) n).1
  unfold prN prK
  rw [e90, show σ 403 3 0 = K 4 from ht.1.2.2.2.2.1, show σ 405 3 0 = K 92 from ht.1.2.2.2.2.2.2.1, ngI_o n (j := 4) (by omega), ngI_90, ngI_o n (j := 92) (by omega)]
  refine cst_agr ?_ (ne j j0 j1)
  rw [tsc_k ht.2.1 j j0 j1]
  show K (7 + j) = ngI K n (7 + j)
  rw [ngI_o n (by omega)]
theorem dN_a {σ : St} {K : Int → Int} {B w z : Int} (ht : tie σ 2 K) (hv : kV K B) (hB : B < 1000000000) (w' : wzI K w z) (n : Nat) : dN σ (K 1) (K 2) (nK K) (K 5).toNat w n z = dK (ngI K n) w z := by
  obtain ⟨h2, h5, h6, h7⟩ := kV_w hv w'.1.1 w'.1.2
  have hm := wh_mul h2
  have z0 := w'.2.1
  have z1 := w'.2.2
  have e1 := ngI_o (K := K) n (j := 1) (by omega)
  have e2 := ngI_o (K := K) n (j := 2) (by omega)
  have ea := ngI_o (K := K) n (j := 79 + w) (by have := w'.1; omega)
  have en : nK (ngI K n) = nK K := by unfold nK; rw [e1, e2]
  unfold dN dK
  rw [e1, e2, ea, en, tkp ht w'.1.1 w'.1.2]
  have cs : csIn (prK (ngI K n) w) (K 1 * K 2) := by
    have := prK_cs (w := w) (plV_st (ngI_st n) hv.1) (ngI_V hv.1 hv.2.1 n)
    rw [e1, e2] at this
    exact this
  exact (dD_agr h2 (fun j j0 j1 => (prN_a ht hv n j j0 (by omega)).symm) cs (nK_c hv.1) h6.1 h6.2 z z0 (by omega)).symm
theorem tk90 {σ : St} {K : Int → Int} (ht : tie σ 2 K) : σ 705 10 0 = K 90 := (tsc_W.mp ht.2.1).2.2.2.1
theorem k147 {d : Nat} {k w z n B : Int} {K : Int → Int} {T : Tt} {σ : St} {Q : vmO → vmH → Prop} (ht : tie σ 2 K) (hv : kV K B) (hB : B < 800000000) (x0 : -2147483648 ≤ w) (x1 : w < 2147483648) (z0 : -2147483648 ≤ z) (z1 : z < 2147483648) (y0 : -2147483648 ≤ n) (y1 : n < 2147483648)
    (hQ1 : ¬ wzI K w z → Q (.inr 0) (E (thr T) σ))
    (hQ2 : wzI K w z → ¬ (0 ≤ n ∧ n ≤ 99) → Q (.inr 1) (E (thr T) σ))
    (hQ3 : wzI K w z → (0 ≤ n ∧ n ≤ 99) → ∀ τ, sg σ τ → Q (.inl (some (.int (i32 (orN (dK (ngI K n.toNat) w z)))))) (E T τ)) : Ca (d + 10) k 147 [.ref 0, .int (i32 w), .int (i32 z), .int (i32 n)] (E T σ) Q := by
  have hW := tie_hp ht hv (show B < 1000000000 by omega)
  have k90 : 0 ≤ K 90 ∧ K 90 ≤ B := hv.2.1.2.2.2.1
  have t90 := tk90 ht
  refine c147 hW (tie_hpL ht hv) (by omega) x0 x1 z0 z1 y0 y1 (fun a => hQ1 (fun b => a ((wzE ht hv).mpr b))) (fun a b c e => hQ2 ((wzE ht hv).mp ⟨⟨a, b⟩, c, e⟩)) (fun a b c e s0 s1 τ hs => ?_)
  have w' := (wzE ht hv).mp ⟨⟨a, b⟩, c, e⟩
  rw [dN_a ht hv (by omega) w']
  exact hQ3 w' ⟨s0, s1⟩ τ hs
theorem k148 {d : Nat} {k w z n B : Int} {K : Int → Int} {T : Tt} {σ : St} {Q : vmO → vmH → Prop} (ht : tie σ 2 K) (hv : kV K B) (hB : B < 800000000) (x0 : -2147483648 ≤ w) (x1 : w < 2147483648) (z0 : -2147483648 ≤ z) (z1 : z < 2147483648) (y0 : -2147483648 ≤ n) (y1 : n < 2147483648)
    (hQ1 : ¬ wzI K w z → Q (.inr 0) (E (thr T) σ))
    (hQ2 : wzI K w z → ¬ (0 ≤ n ∧ n ≤ 99) → Q (.inr 1) (E (thr T) σ))
    (hQ3 : wzI K w z → (0 ≤ n ∧ n ≤ 99) → ∀ τ, sg σ τ → Q (.inl (some (.int (i32 (fsI (fun i => dK (ngI K i.toNat) w z) (n.toNat + 1)).2)))) (E T τ)) : Ca (d + 10) k 148 [.ref 0, .int (i32 w), .int (i32 z), .int (i32 n)] (E T σ) Q := by
  have hW := tie_hp ht hv (show B < 1000000000 by omega)
  have k90 : 0 ≤ K 90 ∧ K 90 ≤ B := hv.2.1.2.2.2.1
  have t90 := tk90 ht
  refine c148 hW (tie_hpL ht hv) (by omega) x0 x1 z0 z1 y0 y1 (fun a => hQ1 (fun b => a ((wzE ht hv).mpr b))) (fun a b c e => hQ2 ((wzE ht hv).mp ⟨⟨a, b⟩, c, e⟩)) (fun a b c e s0 s1 τ hs => ?_)
  have w' := (wzE ht hv).mp ⟨⟨a, b⟩, c, e⟩
  rw [fsI_cg (f' := fun i => dK (ngI K i.toNat) w z) (n.toNat + 1) (fun i _ => dN_a ht hv (by omega) w' _)]
  exact hQ3 w' ⟨s0, s1⟩ τ hs
theorem k149 {d : Nat} {k w z c B : Int} {K : Int → Int} {T : Tt} {σ : St} {Q : vmO → vmH → Prop} (ht : tie σ 2 K) (hv : kV K B) (hB : B < 800000000) (x0 : -2147483648 ≤ w) (x1 : w < 2147483648) (z0 : -2147483648 ≤ z) (z1 : z < 2147483648) (y0 : -2147483648 ≤ c) (y1 : c < 2147483648)
    (hQ1 : ¬ wzI K w z → Q (.inr 0) (E (thr T) σ))
    (hQ2 : wzI K w z → c < 0 → Q (.inr 1) (E (thr T) σ))
    (hQ3 : wzI K w z → 0 ≤ c → ∀ τ, sg σ τ → Q (.inl (some (.int (i32 (fst1 (fun i => decide (dK (ngI K i) w z < far ∧ c ≤ dK (ngI K i) w z)) 100))))) (E T τ)) : Ca (d + 10) k 149 [.ref 0, .int (i32 w), .int (i32 z), .int (i32 c)] (E T σ) Q := by
  have hW := tie_hp ht hv (show B < 1000000000 by omega)
  have k90 : 0 ≤ K 90 ∧ K 90 ≤ B := hv.2.1.2.2.2.1
  have t90 := tk90 ht
  refine c149 hW (tie_hpL ht hv) (by omega) x0 x1 z0 z1 y0 y1 (fun a => hQ1 (fun b => a ((wzE ht hv).mpr b))) (fun a b c e => hQ2 ((wzE ht hv).mp ⟨⟨a, b⟩, c, e⟩)) (fun a b c' e s0 τ hs => ?_)
  have w' := (wzE ht hv).mp ⟨⟨a, b⟩, c', e⟩
  rw [fst1_cg (P' := fun i => decide (dK (ngI K i) w z < far ∧ c ≤ dK (ngI K i) w z)) 100 (fun i _ => by rw [dN_a ht hv (by omega) w'])]
  exact hQ3 w' s0 τ hs
