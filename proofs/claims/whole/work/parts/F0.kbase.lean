/-! ===== the class's questions, in the words of the reference's state ===== -/
theorem tk3 {σ : St} {K : Int → Int} (ht : tie σ 2 K) : σ 404 3 0 = K 3 := ht.1.2.2.2.1
theorem tkp {σ : St} {K : Int → Int} {w : Int} (ht : tie σ 2 K) (w0 : 0 ≤ w) (w1 : w < K 3) : σ 702 10 w = K (79 + w) := ((tsc_W.mp ht.2.1).2.1 w w0 w1).1
theorem wzE {σ : St} {K : Int → Int} {B w z : Int} (ht : tie σ 2 K) (hv : kV K B) : ((0 ≤ w ∧ w < σ 404 3 0) ∧ (0 ≤ z ∧ z < (nK K : Nat))) ↔ wzI K w z := by
  rw [tk3 ht, nK_c hv.1]
  exact Iff.rfl
theorem prA {σ : St} {K : Int → Int} {B w : Int} (ht : tie σ 2 K) (hv : kV K B) : agr (K 1 * K 2) (prc σ 3 10 (frB (σ 405 3 0) w)) (prK K w) := fun j j0 j1 => by
  have hm := wh_mul0 hv.1.1
  exact prE ht.1 ht.2.1 j j0 (by omega)
theorem dA {σ : St} {K : Int → Int} {B w : Int} (ht : tie σ 2 K) (hv : kV K B) (hB : B < 1000000000) (w0 : 0 ≤ w) (w1 : w < K 3) : agr 36 (dD (K 1) (K 2) (prc σ 3 10 (frB (σ 405 3 0) w)) (σ 702 10 w) (nK K)) (dK K w) := by
  obtain ⟨h2, h5, h6, h7⟩ := kV_w hv w0 w1
  rw [tkp ht w0 w1]
  exact dD_agr h2 (prA ht hv) (prc_cs (tie_hp ht hv hB)) (nK_c hv.1) h6.1 h6.2
theorem k130 {d : Nat} {k w z B : Int} {K : Int → Int} {T : Tt} {σ : St} {Q : vmO → vmH → Prop} (ht : tie σ 2 K) (hv : kV K B) (hB : B < 900000000) (x0 : -2147483648 ≤ w) (x1 : w < 2147483648) (z0 : -2147483648 ≤ z) (z1 : z < 2147483648)
    (hQ1 : ¬ wzI K w z → Q (.inr 0) (E (thr T) σ))
    (hQ2 : wzI K w z → ∀ τ, sg σ τ → Q (.inl (some (.int (i32 (orN (dK K w z)))))) (E T τ)) : Ca (d + 10) k 130 [.ref 0, .int (i32 w), .int (i32 z)] (E T σ) Q := by
  have hm := wh_mul0 hv.1.1
  have hN := nK_c hv.1
  refine c130 (tie_hp ht hv (by omega)) x0 x1 z0 z1 (fun a => hQ1 (fun b => a ((wzE ht hv).mpr b))) (fun w0 w1 k0 k1 C X => ?_)
  have a := (wzE ht hv).mp ⟨⟨w0, w1⟩, k0, k1⟩
  rw [dA ht hv (by omega) a.1.1 a.1.2 z k0 (by omega)]
  exact hQ2 a _ sg_wd
theorem k131 {d : Nat} {k w z i B : Int} {K : Int → Int} {T : Tt} {σ : St} {Q : vmO → vmH → Prop} (ht : tie σ 2 K) (hv : kV K B) (hB : B < 900000000) (x0 : -2147483648 ≤ w) (x1 : w < 2147483648) (z0 : -2147483648 ≤ z) (z1 : z < 2147483648) (y0 : -2147483648 ≤ i) (y1 : i < 2147483648)
    (hQ1 : ¬ wzI K w z → Q (.inr 0) (E (thr T) σ))
    (hQ2 : wzI K w z → ¬ yK K w z (K (79 + w)) < far → ∀ τ, sg σ τ → Q (.inl (some (.int (i32 (-1))))) (E T τ))
    (hQ3 : wzI K w z → yK K w z (K (79 + w)) < far → ∀ m : Nat, m ≤ 35 → ptK (K 1) (K 2) (prK K w) (yK K w z) (K (79 + w)) z m → ∀ τ, sg σ τ → Q (.inl (some (.int (i32 (wyA m (pK2 K w z) i))))) (E T τ)) : Ca (d + 10) k 131 [.ref 0, .int (i32 w), .int (i32 z), .int (i32 i)] (E T σ) Q := by
  have hm := wh_mul0 hv.1.1
  have hN := nK_c hv.1
  have hW := tie_hp ht hv (show B < 1000000000 by omega)
  refine c131 hW x0 x1 z0 z1 y0 y1 (fun a => hQ1 (fun b => a ((wzE ht hv).mpr b))) (fun w0 w1 k0 k1 hf τ hs => ?_) (fun w0 w1 k0 k1 hf m m35 hp τ hs => ?_)
  · have a := (wzE ht hv).mp ⟨⟨w0, w1⟩, k0, k1⟩
    obtain ⟨h2, h5, h6, h7⟩ := kV_w hv a.1.1 a.1.2
    have e := dD_agr h2 (prA (w := w) ht hv) (prc_cs hW) hN a.2.1 a.2.2 (K (79 + w)) h6.1 (by omega)
    rw [tkp ht a.1.1 a.1.2, e] at hf
    exact hQ2 a hf τ hs
  · have a := (wzE ht hv).mp ⟨⟨w0, w1⟩, k0, k1⟩
    obtain ⟨h2, h5, h6, h7⟩ := kV_w hv a.1.1 a.1.2
    have e := dD_agr h2 (prA (w := w) ht hv) (prc_cs hW) hN a.2.1 a.2.2
    rw [tkp ht a.1.1 a.1.2] at hf hp ⊢
    rw [e _ h6.1 (by omega)] at hf
    have hf' : yK K w z (K (79 + w)) < far := hf
    obtain ⟨m', m35', hp'⟩ := pt_ex (t := z) h2 (prK_cs (w := w) hv.1 hv.2.1) hN h6.1 h6.2 hf
    have pe : ∀ i, i ≤ m → pt (K 1) (K 2) (prK K w) (dD (K 1) (K 2) (prK K w) z (nK K)) (K (79 + w)) i = pt (K 1) (K 2) (prc σ 3 10 (frB (σ 405 3 0) w)) (dD (K 1) (K 2) (prc σ 3 10 (frB (σ 405 3 0) w)) z (nK K)) (K (79 + w)) i :=
      pt_agr h2 (fun j j0 j1 => (prA ht hv j j0 j1).symm) (fun j j0 j1 => (e j j0 j1).symm) (fun i hi => ⟨(hp.1 i hi).1, (hp.1 i hi).2.1⟩)
    have q := hQ3 a hf' m m35 ⟨fun i hi => by
        have b := hp.1 i hi
        rw [← pe i hi] at b
        refine ⟨b.1, b.2.1, ?_⟩
        have b3 := b.2.2
        rw [e _ b.1 (by omega)] at b3
        exact b3, fun i hi => by
        have b := hp.2.1 i hi
        rw [← pe i (by omega)] at b
        exact b, by
        have b := hp.2.2
        rw [← pe m (Nat.le_refl m)] at b
        exact b⟩ τ hs
    have we : wyA m (pt (K 1) (K 2) (prc σ 3 10 (frB (σ 405 3 0) w)) (dD (K 1) (K 2) (prc σ 3 10 (frB (σ 405 3 0) w)) z (nK K)) (K (79 + w))) i = wyA m (pK2 K w z) i := by
      unfold wyA
      by_cases e1 : i = -1
      · rw [if_pos e1, if_pos e1]
      · rw [if_neg e1, if_neg e1]
        by_cases e2 : 0 ≤ i ∧ i ≤ (m : Int)
        · rw [if_pos e2, if_pos e2]
          exact (pe i.toNat (by omega)).symm
        · rw [if_neg e2, if_neg e2]
    rw [we]
    exact q
theorem wyC_cg {W H a : Int} {c c' y y' : Int → Int} {M : Int → Int64} (h : wh2 W H) (hc : agr (W * H) c c') (hy : agr (W * H) y y') (hM : wyC W H c y a M) : wyC W H c' y' a M := by
  refine ⟨fun z z0 z1 hf => hM.1 z z0 z1 (by rw [hy z z0 z1]; exact hf), fun z z0 z1 hf => ?_⟩
  rw [hM.2 z z0 z1 (by rw [hy z z0 z1]; exact hf)]
  congr 1
  exact mS_cg h z0 z1 (hc z z0 z1) hy (fun _ _ _ _ => rfl) 4 (Nat.le_refl 4)
theorem k132 {d : Nat} {k w z B : Int} {K : Int → Int} {T : Tt} {σ : St} {Q : vmO → vmH → Prop} (ht : tie σ 2 K) (hv : kV K B) (hB : B < 900000000) (x0 : -2147483648 ≤ w) (x1 : w < 2147483648) (z0 : -2147483648 ≤ z) (z1 : z < 2147483648)
    (hQ1 : ¬ wzI K w z → Q (.inr 0) (E (thr T) σ))
    (hQ2 : wzI K w z → ∀ M, wyC (K 1) (K 2) (prK K w) (dK K w) (K (79 + w)) M → ∀ τ, sg σ τ → Q (.inl (some (.long (M z)))) (E T τ)) : Ca (d + 10) k 132 [.ref 0, .int (i32 w), .int (i32 z)] (E T σ) Q := by
  have hm := wh_mul0 hv.1.1
  have hN := nK_c hv.1
  have hW := tie_hp ht hv (show B < 1000000000 by omega)
  refine c132 hW (fun w w0 w1 => ?_) x0 x1 z0 z1 (fun a => hQ1 (fun b => a ((wzE ht hv).mpr b))) (fun w0 w1 k0 k1 M hM τ hs => ?_)
  · rw [tk3 ht] at w1
    obtain ⟨h2, h5, h6, h7⟩ := kV_w hv w0 w1
    rw [tkp ht w0 w1, prA ht hv _ h6.1 h6.2]
    exact fun e => h7 ((prK_w hv.2.1 h6.1 (by omega)).mp e)
  · have a := (wzE ht hv).mp ⟨⟨w0, w1⟩, k0, k1⟩
    obtain ⟨h2, h5, h6, h7⟩ := kV_w hv a.1.1 a.1.2
    refine hQ2 a M ?_ τ hs
    have hM2 := wyC_cg h2 (prA ht hv) (fun j j0 j1 => dA ht hv (by omega) a.1.1 a.1.2 j j0 (by omega)) hM
    rw [tkp ht a.1.1 a.1.2] at hM2
    exact hM2
/-- counts of ways are one -/
theorem wyC_1 {K : Int → Int} {B w z : Int} {M M' : Int → Int64} (hv : kV K B) (a : wzI K w z) (h1 : wyC (K 1) (K 2) (prK K w) (dK K w) (K (79 + w)) M) (h2 : wyC (K 1) (K 2) (prK K w) (dK K w) (K (79 + w)) M') : M z = M' z := by
  obtain ⟨hh, h5, h6, h7⟩ := kV_w hv a.1.1 a.1.2
  have hm := wh_mul hh
  have hc := prK_cs (w := w) hv.1 hv.2.1
  have ac : prK K w (K (79 + w)) ≠ -1 := fun e => h7 ((prK_w hv.2.1 h6.1 (by omega)).mp e)
  have hfar : far = 1000000000 := rfl
  refine wyC_u hh (fun k k0 k1 => ?_) (fun k k0 k1 _ hf => ?_) ?_ (Or.inl ?_) h1 h2 ((dK K w z).toNat + 1) z a.2.1 a.2.2 (by omega)
  · have := dK_b hv a.1.1 a.1.2 k0 k1; omega
  · have := hc k k0 k1
    have := dD_nw hh hc (nK_c hv.1) k0 k1 hf
    omega
  · have := hc _ h6.1 h6.2; omega
  · exact dD_0 hh hc (nK_c hv.1) h6.1 h6.2 ac
theorem k137 {d : Nat} {k w c B : Int} {K : Int → Int} {T : Tt} {σ : St} {Q : vmO → vmH → Prop} (ht : tie σ 2 K) (hv : kV K B) (hB : B < 900000000) (x0 : -2147483648 ≤ w) (x1 : w < 2147483648) (z0 : -2147483648 ≤ c) (z1 : c < 2147483648)
    (hQ1 : ¬ (0 ≤ w ∧ w < K 3) → Q (.inr 0) (E (thr T) σ))
    (hQ2 : (0 ≤ w ∧ w < K 3) → c < 0 → Q (.inr 1) (E (thr T) σ))
    (hQ3 : (0 ≤ w ∧ w < K 3) → 0 ≤ c → ∀ τ, sg σ τ → Q (.inl (some (.long (bs (rcB (dK K w) c (nK K)))))) (E T τ)) : Ca (d + 10) k 137 [.ref 0, .int (i32 w), .int (i32 c)] (E T σ) Q := by
  have hm := wh_mul0 hv.1.1
  have hN := nK_c hv.1
  have e3 := tk3 ht
  refine c137 (tie_hp ht hv (by omega)) x0 x1 z0 z1 (fun a => hQ1 (by rw [← e3]; exact a)) (fun w0 w1 => hQ2 ⟨w0, by rw [← e3]; exact w1⟩) (fun w0 w1 c0 C X => ?_)
  rw [e3] at w1
  have e := dA ht hv (show B < 1000000000 by omega) w0 w1
  have q := hQ3 ⟨w0, w1⟩ c0 _ (sg_wd (C := C) (X := X))
  rw [bs_congr (p := rcB (dD (K 1) (K 2) (prc σ 3 10 (frB (σ 405 3 0) w)) (σ 702 10 w) (nK K)) c (nK K)) (q := rcB (dK K w) c (nK K)) (fun k k0 _ => by
    unfold rcB
    by_cases hk : k < (nK K : Nat)
    · rw [e k k0 (by omega)]
    · rw [decide_eq_false (fun t => hk t.2.1), decide_eq_false (fun t => hk t.2.1)])]
  exact q
theorem ftI_cg {f f' : Int → Int} {a : Int} : ∀ n : Nat, (∀ k : Nat, k < n → f k = f' k) → ftI f a n = ftI f' a n
  | 0, _ => rfl
  | n + 1, h => by
    simp only [ftI]
    rw [ftI_cg n (fun k hk => h k (by omega)), h n (by omega)]
theorem k138 {d : Nat} {k w B : Int} {K : Int → Int} {T : Tt} {σ : St} {Q : vmO → vmH → Prop} (ht : tie σ 2 K) (hv : kV K B) (hB : B < 900000000) (x0 : -2147483648 ≤ w) (x1 : w < 2147483648)
    (hQ1 : ¬ (0 ≤ w ∧ w < K 3) → Q (.inr 0) (E (thr T) σ))
    (hQ2 : (0 ≤ w ∧ w < K 3) → ∀ τ, sg σ τ → Q (.inl (some (.int (i32 (ftI (dK K w) (K (79 + w)) (nK K)).2)))) (E T τ)) : Ca (d + 10) k 138 [.ref 0, .int (i32 w)] (E T σ) Q := by
  have hm := wh_mul0 hv.1.1
  have hN := nK_c hv.1
  have e3 := tk3 ht
  refine c138 (tie_hp ht hv (by omega)) x0 x1 (fun a => hQ1 (by rw [← e3]; exact a)) (fun w0 w1 C X => ?_)
  rw [e3] at w1
  have e := dA ht hv (show B < 1000000000 by omega) w0 w1
  rw [ftI_cg (nK K) (fun k hk => e k (by omega) (by omega)), tkp ht w0 w1]
  exact hQ2 ⟨w0, w1⟩ _ sg_wd
theorem mtI_cg {f f' g g' : Int → Int} {z : Int} : ∀ n : Nat, (∀ k : Nat, k < n → f k = f' k ∧ g k = g' k) → mtI f g z n = mtI f' g' z n
  | 0, _ => rfl
  | n + 1, h => by
    simp only [mtI]
    rw [mtI_cg n (fun k hk => h k (by omega)), (h n (by omega)).1, (h n (by omega)).2]
theorem k141 {d : Nat} {k w v z y B : Int} {K : Int → Int} {T : Tt} {σ : St} {Q : vmO → vmH → Prop} (ht : tie σ 2 K) (hv : kV K B) (hB : B < 900000000) (x0 : -2147483648 ≤ w) (x1 : w < 2147483648) (x2 : -2147483648 ≤ v) (x3 : v < 2147483648) (hz : z = 0 ∨ z = 1) (y0 : -2147483648 ≤ y) (y1 : y < 2147483648)
    (hQ1 : ¬ ((0 ≤ w ∧ w < K 3) ∧ 0 ≤ v ∧ v < K 3) → Q (.inr 0) (E (thr T) σ))
    (hQ2 : ((0 ≤ w ∧ w < K 3) ∧ 0 ≤ v ∧ v < K 3) → ¬ (w ≠ v ∧ 0 ≤ y ∧ y ≤ 1) → Q (.inr 1) (E (thr T) σ))
    (hQ3 : ((0 ≤ w ∧ w < K 3) ∧ 0 ≤ v ∧ v < K 3) → (w ≠ v ∧ 0 ≤ y ∧ y ≤ 1) → ∀ τ, sg σ τ → Q (.inl (some (.int (i32 (mtR K w v z y))))) (E T τ)) : Ca (d + 10) k 141 [.ref 0, .int (i32 w), .int (i32 v), .int (i32 z), .int (i32 y)] (E T σ) Q := by
  have hm := wh_mul0 hv.1.1
  have hN := nK_c hv.1
  have e3 := tk3 ht
  rw [show Ca (d + 10) k 141 [.ref 0, .int (i32 w), .int (i32 v), .int (i32 z), .int (i32 y)] (E T σ) Q = Ca (d + 10) 4 141 [.ref 0, .int (i32 w), .int (i32 v), .int (i32 z), .int (i32 y)] (E T σ) Q by rw [n141 _ _ _ _ _ _ _ _ _ _ ob_hp, n141 _ _ _ _ _ _ _ _ _ _ ob_hp]]
  refine c141 (by omega) (tie_hp ht hv (by omega)) x0 x1 x2 x3 hz y0 y1 (fun a => hQ1 (fun b => a (by rw [e3]; exact ⟨b.1.1, b.1.2, b.2⟩))) (fun a b c e => hQ2 ⟨⟨a, by rw [← e3]; exact b⟩, c, by rw [← e3]; exact e⟩) (fun w0 w1 v0 v1 ne q0 q1 K' C X => ?_)
  rw [e3] at w1 v1
  have e := dA ht hv (show B < 1000000000 by omega) w0 w1
  have e' := dA ht hv (show B < 1000000000 by omega) v0 v1
  have me : mtI (dW σ (K 1) (K 2) (nK K) w) (dW σ (K 1) (K 2) (nK K) v) z (nK K) = mtI (dK K w) (dK K v) z (nK K) := mtI_cg (nK K) (fun k hk => ⟨e k (by omega) (by omega), e' k (by omega) (by omega)⟩)
  rw [me]
  exact hQ3 ⟨⟨w0, w1⟩, v0, v1⟩ ⟨ne, q0, q1⟩ _ (sg_t (sg_u sg_r (by omega)) sg_wd)
theorem fsI_cg {f f' : Int → Int} : ∀ n : Nat, (∀ k : Nat, k < n → f k = f' k) → fsI f n = fsI f' n
  | 0, _ => rfl
  | n + 1, h => by
    simp only [fsI]
    rw [fsI_cg n (fun k hk => h k (by omega)), h n (by omega)]
theorem k142 {d : Nat} {k c B : Int} {K : Int → Int} {T : Tt} {σ : St} {Q : vmO → vmH → Prop} (ht : tie σ 2 K) (hv : kV K B) (hB : B < 900000000) (x0 : -2147483648 ≤ c) (x1 : c < 2147483648)
    (hQ1 : ¬ (0 ≤ c ∧ c < K 1 * K 2) → Q (.inr 0) (E (thr T) σ))
    (hQ2 : (0 ≤ c ∧ c < K 1 * K 2) → ∀ τ, sg σ τ → Q (.inl (some (.int (i32 (fsI (fun w => dK K w c) (K 3).toNat).2)))) (E T τ)) : Ca (d + 10) k 142 [.ref 0, .int (i32 c)] (E T σ) Q := by
  have hm := wh_mul0 hv.1.1
  have hN := nK_c hv.1
  have e3 := tk3 ht
  refine c142 (tie_hp ht hv (by omega)) x0 x1 (fun a => hQ1 (by rw [← hN]; exact a)) (fun c0 c1 τ hs => ?_)
  have fe : fsI (fun w => dW σ (K 1) (K 2) (nK K) w c) (σ 404 3 0).toNat = fsI (fun w => dK K w c) (K 3).toNat := by
    rw [e3]
    exact fsI_cg _ (fun w hw => dA ht hv (show B < 1000000000 by omega) (by omega) (by omega) c c0 (by omega))
  rw [fe]
  refine hQ2 ⟨c0, by omega⟩ τ ?_
  rcases hs with hs | ⟨C, X, hs⟩
  · rw [hs]; exact sg_r
  · rw [hs]; exact sg_wd
theorem owI_cg {f f' : Int → Int → Int} {w k : Int} : ∀ n : Nat, (∀ j : Nat, j < n → f j k = f' j k) → owI f w n k = owI f' w n k
  | 0, _ => rfl
  | n + 1, h => by
    simp only [owI]
    rw [owI_cg n (fun k hk => h k (by omega)), h n (by omega)]
theorem k143 {d : Nat} {k w B : Int} {K : Int → Int} {T : Tt} {σ : St} {Q : vmO → vmH → Prop} (ht : tie σ 2 K) (hv : kV K B) (hB : B < 900000000) (x0 : -2147483648 ≤ w) (x1 : w < 2147483648)
    (hQ1 : ¬ (0 ≤ w ∧ w < K 3) → Q (.inr 0) (E (thr T) σ))
    (hQ2 : (0 ≤ w ∧ w < K 3) → ∀ τ, sg σ τ → Q (.inl (some (.long (bs (owB (dK K w) (owI (dK K) w (K 3).toNat) (nK K)))))) (E T τ)) : Ca (d + 10) k 143 [.ref 0, .int (i32 w)] (E T σ) Q := by
  have hm := wh_mul0 hv.1.1
  have hN := nK_c hv.1
  have e3 := tk3 ht
  rw [show Ca (d + 10) k 143 [.ref 0, .int (i32 w)] (E T σ) Q = Ca (d + 10) 4 143 [.ref 0, .int (i32 w)] (E T σ) Q by rw [n143 _ _ _ _ _ _ _ ob_hp, n143 _ _ _ _ _ _ _ ob_hp]]
  refine c143 (by omega) (tie_hp ht hv (by omega)) x0 x1 (fun a => hQ1 (by rw [← e3]; exact a)) (fun w0 w1 K' C X => ?_)
  rw [e3] at w1
  have q := hQ2 ⟨w0, w1⟩ _ (sg_t (sg_u (t := 1002) (o := 144) (f := K') sg_r (by omega)) (sg_wd (C := C) (X := X)))
  rw [bs_congr (p := owB (dW σ (K 1) (K 2) (nK K) w) (owI (dW σ (K 1) (K 2) (nK K)) w (σ 404 3 0).toNat) (nK K)) (q := owB (dK K w) (owI (dK K) w (K 3).toNat) (nK K)) (fun k k0 _ => by
    unfold owB
    by_cases hk : k < (nK K : Nat)
    · rw [e3, show dW σ (K 1) (K 2) (nK K) w k = dK K w k from dA ht hv (by omega) w0 w1 k k0 (by omega), owI_cg (f' := dK K) _ (fun j hj => dA ht hv (show B < 1000000000 by omega) (by omega) (by omega) k k0 (by omega))]
    · rw [decide_eq_false (fun t => hk t.2.1), decide_eq_false (fun t => hk t.2.1)])]
  exact q
