/-! ===== walks, been, through, tells, maybe: class and reference ===== -/
theorem cwA {σ : St} {K : Int → Int} {B w z av : Int} {t : Nat} (ht : tie σ 2 K) (hv : kV K B) (w' : wzI K w z) : cw (K 1) (K 2) (prc σ 3 10 (frB (σ 405 3 0) w)) (lvB (K 1) (K 2) (prc σ 3 10 (frB (σ 405 3 0) w)) (σ 702 10 w) z t av) t z = i64 (cmK K w av t z : Nat) := by
  have h2 := (kV_w hv w'.1.1 w'.1.2).1
  rw [cw_cm h2 t t (Nat.le_refl _) (Nat.le_refl _) z w'.2.1 w'.2.2 (by rw [Nat.sub_self]; exact decide_eq_true rfl), tkp ht w'.1.1 w'.1.2]
  unfold cmK
  rw [cm_cg h2 (prA ht hv) t t (Nat.le_refl _) z w'.2.1 w'.2.2]
theorem k150 {d : Nat} {k w z t B : Int} {K : Int → Int} {T : Tt} {σ : St} {Q : vmO → vmH → Prop} (ht : tie σ 2 K) (hv : kV K B) (hB : B < 900000000) (x0 : -2147483648 ≤ w) (x1 : w < 2147483648) (z0 : -2147483648 ≤ z) (z1 : z < 2147483648) (y0 : -2147483648 ≤ t) (y1 : t < 2147483648)
    (hQ1 : ¬ wzI K w z → Q (.inr 0) (E (thr T) σ))
    (hQ2 : wzI K w z → ¬ (0 ≤ t ∧ t ≤ 30) → Q (.inr 1) (E (thr T) σ))
    (hQ3 : wzI K w z → (0 ≤ t ∧ t ≤ 30) → ∀ τ, sg σ τ → Q (.inl (some (.long (i64 (cmK K w (-1) t.toNat z : Nat))))) (E T τ)) : Ca (d + 10) k 150 [.ref 0, .int (i32 w), .int (i32 z), .int (i32 t)] (E T σ) Q := by
  have hW := tie_hp ht hv (show B < 1000000000 by omega)
  refine c150 hW x0 x1 z0 z1 y0 y1 (fun a => hQ1 (fun b => a ((wzE ht hv).mpr b))) (fun a b c e => hQ2 ((wzE ht hv).mp ⟨⟨a, b⟩, c, e⟩)) (fun a b c e t0 t1 τ hs => ?_)
  have w' := (wzE ht hv).mp ⟨⟨a, b⟩, c, e⟩
  rw [cwA ht hv w']
  exact hQ3 w' ⟨t0, t1⟩ τ hs
theorem psI_bw {K c : Int → Int} {B w z : Int} {t : Nat} (hv : kV K B) (w' : wzI K w z) (hc : agr (K 1 * K 2) c (prK K w)) : ∀ (n : Nat) (k : Int), 0 ≤ k → psI (K 1) (K 2) c (K (79 + w)) z t n k = bwN K w z t n k
  | 0, _, _ => rfl
  | n + 1, k, k0 => by
    have ih := psI_bw (t := t) hv w' hc n k k0
    obtain ⟨h2, h5, h6, h7⟩ := kV_w hv w'.1.1 w'.1.2
    show (psI (K 1) (K 2) c (K (79 + w)) z t n k || (th (K 1) (K 2) c (K (79 + w)) n k && tc (K 1) (K 2) c z (t - n) k)) = (bwN K w z t n k || bwB K w z t n k)
    rw [ih]
    congr 1
    unfold bwB
    by_cases k1 : k < K 1 * K 2
    · have a := th_cm (c := c) (a := K (79 + w)) h2 n n (Nat.le_refl _) k k0 k1
      have b := tc_gm (c := c) (z := z) h2 (t - n) (t - n) (Nat.le_refl _) k k0 k1
      rw [cm_cg h2 hc n n (Nat.le_refl _) k k0 k1] at a
      rw [gm_cg h2 hc (t - n) (t - n) (Nat.le_refl _) k k0 k1] at b
      rw [Bool.eq_iff_iff, Bool.and_eq_true, a, b, decide_eq_true_iff]
      exact ⟨fun t => ⟨⟨k0, k1⟩, t⟩, fun t => t.2⟩
    · rw [decide_eq_false (fun t => k1 t.1.2)]
      cases e : th (K 1) (K 2) c (K (79 + w)) n k with
      | false => rfl
      | true => exact absurd (th_in h6.2 n k e) k1
theorem k151 {d : Nat} {k w z t B : Int} {K : Int → Int} {T : Tt} {σ : St} {Q : vmO → vmH → Prop} (ht : tie σ 2 K) (hv : kV K B) (hB : B < 900000000) (x0 : -2147483648 ≤ w) (x1 : w < 2147483648) (z0 : -2147483648 ≤ z) (z1 : z < 2147483648) (y0 : -2147483648 ≤ t) (y1 : t < 2147483648)
    (hQ1 : ¬ wzI K w z → Q (.inr 0) (E (thr T) σ))
    (hQ2 : wzI K w z → ¬ (0 ≤ t ∧ t ≤ 30) → Q (.inr 1) (E (thr T) σ))
    (hQ3 : wzI K w z → (0 ≤ t ∧ t ≤ 30) → ∀ τ, sg σ τ → Q (.inl (some (.long (bs (bwN K w z t.toNat (t.toNat + 1)))))) (E T τ)) : Ca (d + 10) k 151 [.ref 0, .int (i32 w), .int (i32 z), .int (i32 t)] (E T σ) Q := by
  have hW := tie_hp ht hv (show B < 1000000000 by omega)
  refine c151 hW x0 x1 z0 z1 y0 y1 (fun a => hQ1 (fun b => a ((wzE ht hv).mpr b))) (fun a b c e => hQ2 ((wzE ht hv).mp ⟨⟨a, b⟩, c, e⟩)) (fun a b c e t0 t1 τ hs => ?_)
  have w' := (wzE ht hv).mp ⟨⟨a, b⟩, c, e⟩
  have q := hQ3 w' ⟨t0, t1⟩ τ hs
  rw [tkp ht w'.1.1 w'.1.2, bs_congr (q := bwN K w z t.toNat (t.toNat + 1)) (fun k k0 _ => psI_bw hv w' (prA ht hv) (t.toNat + 1) k k0)]
  exact q
theorem cbE {σ : St} {K : Int → Int} {B w z x : Int} {t : Nat} (ht : tie σ 2 K) (hv : kV K B) (w' : wzI K w z) (x0 : 0 ≤ x) : cbA (K 1) (K 2) (prc σ 3 10 (frB (σ 405 3 0) w)) (σ 702 10 w) z t (i64 (cmK K w (-1) t z : Nat)) x = thK K w z t x := by
  have h2 := (kV_w hv w'.1.1 w'.1.2).1
  have e := fun av => cm_cg (a := K (79 + w)) (av := av) h2 (prA (w := w) ht hv) t t (Nat.le_refl _) z w'.2.1 w'.2.2
  have c := cb_th (c := prc σ 3 10 (frB (σ 405 3 0) w)) (a := K (79 + w)) (t := t) h2 w'.2.1 w'.2.2 x0
  rw [e (-1), e x] at c
  rw [tkp ht w'.1.1 w'.1.2]
  exact c
theorem k152 {d : Nat} {k w z t x B : Int} {K : Int → Int} {T : Tt} {σ : St} {Q : vmO → vmH → Prop} (ht : tie σ 2 K) (hv : kV K B) (hB : B < 900000000) (x0 : -2147483648 ≤ w) (x1 : w < 2147483648) (z0 : -2147483648 ≤ z) (z1 : z < 2147483648) (y0 : -2147483648 ≤ t) (y1 : t < 2147483648) (q0 : -2147483648 ≤ x) (q1 : x < 2147483648)
    (hQ1 : ¬ (wzI K w z ∧ (0 ≤ x ∧ x < K 1 * K 2)) → Q (.inr 0) (E (thr T) σ))
    (hQ2 : (wzI K w z ∧ (0 ≤ x ∧ x < K 1 * K 2)) → ¬ (0 ≤ t ∧ t ≤ 30) → Q (.inr 1) (E (thr T) σ))
    (hQ3 : (wzI K w z ∧ (0 ≤ x ∧ x < K 1 * K 2)) → (0 ≤ t ∧ t ≤ 30) → ∀ τ, sg σ τ → Q (.inl (some (.long (thK K w z t.toNat x)))) (E T τ)) : Ca (d + 10) k 152 [.ref 0, .int (i32 w), .int (i32 z), .int (i32 t), .int (i32 x)] (E T σ) Q := by
  have hW := tie_hp ht hv (show B < 1000000000 by omega)
  have hN := nK_c hv.1
  refine c152 hW x0 x1 z0 z1 y0 y1 q0 q1 (fun a => hQ1 (fun b => a ⟨(wzE ht hv).mpr b.1, b.2.1, by omega⟩)) (fun a b c e f g => hQ2 ⟨(wzE ht hv).mp ⟨⟨a, b⟩, c, e⟩, f, by omega⟩) (fun a b c e f g t0 t1 τ hs => ?_)
  have w' := (wzE ht hv).mp ⟨⟨a, b⟩, c, e⟩
  rw [cwA ht hv w', cbE ht hv w' f]
  exact hQ3 ⟨w', f, by omega⟩ ⟨t0, t1⟩ τ hs
theorem tlI_cg {all : Int64} {g g' : Int → Int64} : ∀ n : Nat, (∀ k : Nat, k < n → g k = g' k) → tlI all g n = tlI all g' n
  | 0, _ => rfl
  | n + 1, h => by
    simp only [tlI]
    rw [tlI_cg n (fun k hk => h k (by omega)), h n (by omega)]
theorem k153 {d : Nat} {k w z t B : Int} {K : Int → Int} {T : Tt} {σ : St} {Q : vmO → vmH → Prop} (ht : tie σ 2 K) (hv : kV K B) (hB : B < 900000000) (x0 : -2147483648 ≤ w) (x1 : w < 2147483648) (z0 : -2147483648 ≤ z) (z1 : z < 2147483648) (y0 : -2147483648 ≤ t) (y1 : t < 2147483648)
    (hQ1 : ¬ wzI K w z → Q (.inr 0) (E (thr T) σ))
    (hQ2 : wzI K w z → ¬ (0 ≤ t ∧ t ≤ 30) → Q (.inr 1) (E (thr T) σ))
    (hQ3 : wzI K w z → (0 ≤ t ∧ t ≤ 30) → ∀ τ, sg σ τ → Q (.inl (some (.int (i32 (if i64 (cmK K w (-1) t.toNat z : Nat) = i64 0 then -1 else (tlI (i64 (cmK K w (-1) t.toNat z : Nat)) (thK K w z t.toNat) (nK K)).2))))) (E T τ)) : Ca (d + 10) k 153 [.ref 0, .int (i32 w), .int (i32 z), .int (i32 t)] (E T σ) Q := by
  have hW := tie_hp ht hv (show B < 1000000000 by omega)
  refine c153 hW x0 x1 z0 z1 y0 y1 rfl (fun a => hQ1 (fun b => a ((wzE ht hv).mpr b))) (fun a b c e => hQ2 ((wzE ht hv).mp ⟨⟨a, b⟩, c, e⟩)) (fun a b c e t0 t1 τ hs => ?_)
  have w' := (wzE ht hv).mp ⟨⟨a, b⟩, c, e⟩
  rw [cwA ht hv w', tlI_cg (g' := thK K w z t.toNat) (nK K) (fun k _ => cbE ht hv w' (by omega))]
  exact hQ3 w' ⟨t0, t1⟩ τ hs
theorem k154 {d : Nat} {k w t B : Int} {K : Int → Int} {T : Tt} {σ : St} {Q : vmO → vmH → Prop} (ht : tie σ 2 K) (hv : kV K B) (hB : B < 900000000) (x0 : -2147483648 ≤ w) (x1 : w < 2147483648) (y0 : -2147483648 ≤ t) (y1 : t < 2147483648)
    (hQ1 : ¬ (0 ≤ w ∧ w < K 3) → Q (.inr 0) (E (thr T) σ))
    (hQ2 : (0 ≤ w ∧ w < K 3) → ¬ (0 ≤ t ∧ t ≤ 30) → Q (.inr 1) (E (thr T) σ))
    (hQ3 : (0 ≤ w ∧ w < K 3) → (0 ≤ t ∧ t ≤ 30) → ∀ τ, sg σ τ → Q (.inl (some (.long (bs (myB K w t.toNat))))) (E T τ)) : Ca (d + 10) k 154 [.ref 0, .int (i32 w), .int (i32 t)] (E T σ) Q := by
  have hW := tie_hp ht hv (show B < 1000000000 by omega)
  have e3 := tk3 ht
  refine c154 hW x0 x1 y0 y1 (fun a => hQ1 (by rw [← e3]; exact a)) (fun a b => hQ2 ⟨a, by rw [← e3]; exact b⟩) (fun a b t0 t1 τ hs => ?_)
  rw [e3] at b
  obtain ⟨h2, h5, h6, h7⟩ := kV_w hv a b
  have q := hQ3 ⟨a, b⟩ ⟨t0, t1⟩ τ hs
  rw [tkp ht a b, bs_congr (q := myB K w t.toNat) (fun k k0 _ => by
    unfold myB
    by_cases k1 : k < K 1 * K 2
    · have e := th_cm (c := prc σ 3 10 (frB (σ 405 3 0) w)) (a := K (79 + w)) h2 t.toNat t.toNat (Nat.le_refl _) k k0 k1
      rw [cm_cg h2 (prA ht hv) t.toNat t.toNat (Nat.le_refl _) k k0 k1] at e
      rw [Bool.eq_iff_iff, e, decide_eq_true_iff]
      exact ⟨fun t => ⟨⟨k0, k1⟩, t⟩, fun t => t.2⟩
    · rw [decide_eq_false (fun t => k1 t.1.2)]
      cases e : th (K 1) (K 2) (prc σ 3 10 (frB (σ 405 3 0) w)) (K (79 + w)) t.toNat k with
      | false => rfl
      | true => exact absurd (th_in h6.2 t.toNat k e) k1)]
  exact q
