/-! ===== round, bestOrder: class and reference ===== -/
theorem lgE {σ : St} {K : Int → Int} {B w : Int} (ht : tie σ 2 K) (hv : kV K B) (hB : B < 1000000000) (w0 : 0 ≤ w) (w1 : w < K 3) : ∀ i e : Int, 0 ≤ i → i ≤ ((K (93 + w)).toNat : Nat) → 0 ≤ e → e < ((K (93 + w)).toNat : Nat) → lgW σ (K 1) (K 2) (nK K) w (4 * i + e) = lgK K w (4 * i + e) := by
  intro i e i0 i1 e0 e1
  obtain ⟨h2, h5, h6, h7⟩ := kV_w hv w0 w1
  have hm := wh_mul h2
  obtain ⟨en, ee⟩ := kV_e hv w0 w1
  have cl := fun e (e0 : 0 ≤ e) (e1 : e < K (93 + w)) => (ht.1.2.2.2.2.2.2.2.2.1 w e w0 h5 e0 e1).1
  have ce := ee e e0 (by omega)
  unfold lgW lgK
  rw [show (4 * i + e) / 4 = i by omega, show (4 * i + e) % 4 = e by omega, cl e e0 (by omega)]
  have fe : fromI (σ 702 10 w) (fun e => σ 407 3 (4 * w + e)) i = fromI (K (79 + w)) (fun e => K (98 + 4 * w + e)) i := by
    unfold fromI
    by_cases ei : i = 0
    · rw [if_pos ei, if_pos ei]; exact tkp ht w0 w1
    · rw [if_neg ei, if_neg ei]; exact cl (i - 1) (by omega) (by omega)
  have fin : 0 ≤ fromI (K (79 + w)) (fun e => K (98 + 4 * w + e)) i ∧ fromI (K (79 + w)) (fun e => K (98 + 4 * w + e)) i < K 1 * K 2 := by
    unfold fromI
    by_cases er : i = 0
    · rw [if_pos er]; exact h6
    · rw [if_neg er]; exact (ee (i - 1) (by omega) (by omega)).1
  rw [fe]
  exact dD_agr h2 (prA ht hv) (prc_cs (tie_hp ht hv hB)) (nK_c hv.1) fin.1 fin.2 _ ce.1.1 (by omega)
theorem duE {σ : St} {K : Int → Int} {B w : Int} (ht : tie σ 2 K) (hv : kV K B) (w0 : 0 ≤ w) (w1 : w < K 3) : ∀ e : Int, 0 ≤ e → e < ((K (93 + w)).toNat : Nat) → duW σ w e = duK K w e := by
  intro e e0 e1
  have h5 := (kV_w hv w0 w1).2.1
  have en := (kV_e hv w0 w1).1
  exact (ht.1.2.2.2.2.2.2.2.2.1 w e w0 h5 e0 (by omega)).2
theorem tk6 {σ : St} {K : Int → Int} {B w : Int} (ht : tie σ 2 K) (hv : kV K B) (w0 : 0 ≤ w) (w1 : w < K 3) : σ 406 3 w = ((K (93 + w)).toNat : Nat) := by
  have h5 := (kV_w hv w0 w1).2.1
  have en := (kV_e hv w0 w1).1
  rw [ht.1.2.2.2.2.2.2.2.1 w w0 h5]
  omega
theorem tk89 {σ : St} {K : Int → Int} (ht : tie σ 2 K) : σ 704 10 0 = K 89 := (tsc_W.mp ht.2.1).2.2.1
theorem k139 {d : Nat} {k w wh B : Int} {K : Int → Int} {T : Tt} {σ : St} {Q : vmO → vmH → Prop} (ht : tie σ 2 K) (hv : kV K B) (hB : B < 900000000) (x0 : -2147483648 ≤ w) (x1 : w < 2147483648) (y0 : -2147483648 ≤ wh) (y1 : wh < 2147483648)
    (hQ1 : ¬ (0 ≤ w ∧ w < K 3) → Q (.inr 0) (E (thr T) σ))
    (hQ2 : (0 ≤ w ∧ w < K 3) → ¬ (0 ≤ wh ∧ wh ≤ 2) → Q (.inr 1) (E (thr T) σ))
    (hQ3 : (0 ≤ w ∧ w < K 3) → (0 ≤ wh ∧ wh ≤ 2) → ∀ τ, sg σ τ → Q (.inl (some (.int (i32 (rnA (rdK K w (fun i => i) (K (93 + w)).toNat) wh))))) (E T τ)) : Ca (d + 10) k 139 [.ref 0, .int (i32 w), .int (i32 wh)] (E T σ) Q := by
  have hW := tie_hp ht hv (show B < 1000000000 by omega)
  have e3 := tk3 ht
  have k89 : 0 ≤ K 89 ∧ K 89 ≤ B := hv.2.1.2.2.1
  have t9 := tk89 ht
  refine c139 (n := (K (93 + w)).toNat) hW (tie_hpE ht hv) (by omega) (by omega) x0 x1 y0 y1 (fun a => tk6 ht hv a.1 (by rw [← e3]; exact a.2)) (fun a => hQ1 (by rw [← e3]; exact a)) (fun a b => hQ2 ⟨a, by rw [← e3]; exact b⟩) (fun a b c e τ hs => ?_)
  rw [e3] at b
  have en := (kV_e hv a b).1
  have re : rdI (lgW σ (K 1) (K 2) (nK K) w) (duW σ w) (σ 704 10 0) (fun i => i) (K (93 + w)).toNat = rdK K w (fun i => i) (K (93 + w)).toNat := by
    rw [t9]
    exact (rdI_cg (lgK_ok hv a b) (by omega) (fun i hi => by omega) (fun i e i0 i1 e0 e1 => (lgE ht hv (by omega) a b i e i0 i1 e0 e1).symm) (fun e e0 e1 => (duE ht hv a b e e0 e1).symm) _ (Nat.le_refl _)).symm
  rw [re]
  exact hQ3 ⟨a, b⟩ ⟨c, e⟩ τ hs
/-- the orders among the first m numbers -/
def seO (N : Nat) (m : Nat) : List Int := (List.range N).map (fun i : Nat => ordN N m (i : Int))
def sel (N : Nat) : Nat → List (List Int)
  | 0 => []
  | m + 1 => if snI N m N = sl 1 N - 1 then sel N m ++ [seO N m] else sel N m
theorem sel_0 : sel 0 (0 ^ 0) = lvs 0 0 [] 0 := by decide +kernel
theorem sel_1 : sel 1 (1 ^ 1) = lvs 1 1 [] 0 := by decide +kernel
theorem sel_2 : sel 2 (2 ^ 2) = lvs 2 2 [] 0 := by decide +kernel
theorem sel_3 : sel 3 (3 ^ 3) = lvs 3 3 [] 0 := by decide +kernel
theorem sel_4 : sel 4 (4 ^ 4) = lvs 4 4 [] 0 := by decide +kernel
theorem sel_n {N : Nat} (h : N ≤ 4) : sel N (N ^ N) = lvs N N [] 0 := by
  have hc : N = 0 ∨ N = 1 ∨ N = 2 ∨ N = 3 ∨ N = 4 := by omega
  rcases hc with rfl | rfl | rfl | rfl | rfl
  · exact sel_0
  · exact sel_1
  · exact sel_2
  · exact sel_3
  · exact sel_4
theorem seO_at {N m i : Nat} (hi : i < N) : ordL (seO N m) i = ordN N m i := by
  unfold ordL seO
  rw [Int.toNat_natCast, List.getD_eq_getElem?_getD, List.getElem?_map, List.getElem?_range hi]
  rfl
/-- class's best and reference's best, behind the same orders -/
def boE (N : Nat) (l : List (List Int)) (x y : Bo) : Prop := (l = [] ∧ x = ((N : Int) + 1, far, fun _ => 0) ∧ y = (-1, 0, fun _ => 0)) ∨ (l ≠ [] ∧ x.1 = y.1 ∧ x.2.1 = y.2.1 ∧ (∀ i : Nat, i < N → x.2.2 i = y.2.2 i) ∧ y.1 ≠ -1)
theorem boI_fold {K : Int → Int} {B w : Int} (hv : kV K B) (w0 : 0 ≤ w) (w1 : w < K 3) : ∀ m : Nat, boE (K (93 + w)).toNat (sel (K (93 + w)).toNat m) (boI (lgK K w) (duK K w) (K 89) (K (93 + w)).toNat m) ((sel (K (93 + w)).toNat m).foldl (btS K w (K (93 + w)).toNat) (-1, 0, fun _ => 0)) := by
  have en := (kV_e hv w0 w1).1
  have lg := lgK_ok hv w0 w1
  generalize hN : (K (93 + w)).toNat = N at lg ⊢
  have N4 : N ≤ 4 := by omega
  intro m
  induction m with
  | zero => exact Or.inl ⟨rfl, rfl, rfl⟩
  | succ m ih =>
    have s1 : sel N (m + 1) = if snI N m N = sl 1 N - 1 then sel N m ++ [seO N m] else sel N m := rfl
    have s2 : boI (lgK K w) (duK K w) (K 89) N (m + 1) = boS (lgK K w) (duK K w) (K 89) N m (boI (lgK K w) (duK K w) (K 89) N m) := rfl
    rw [s2]
    unfold boS
    by_cases hp : snI N m N = sl 1 N - 1
    · rw [if_pos hp] at s1
      rw [s1, List.foldl_append, List.foldl_cons, List.foldl_nil]
      have re : rdK K w (ordL (seO N m)) N = rdI (lgK K w) (duK K w) (K 89) (ordN N m) N := rdI_congr (N := N) (fun i hi => seO_at hi) N (Nat.le_refl N)
      have inn := rdI_in (du := duK K w) (st := K 89) lg N4 (o := ordN N m) (fun i hi => ordN_in (by omega) i) N (Nat.le_refl N)
      generalize (sel N m).foldl (btS K w N) (-1, 0, fun _ => 0) = y at ih ⊢
      unfold btS
      rw [re]
      generalize rdI (lgK K w) (duK K w) (K 89) (ordN N m) N = r at inn ⊢
      generalize boI (lgK K w) (duK K w) (K 89) N m = x at ih ⊢
      have ne : sel N m ++ [seO N m] ≠ [] := by simp
      have nw : boE N (sel N m ++ [seO N m]) (r.2.1, r.1, ordN N m) (r.2.1, r.1, ordL (seO N m)) := Or.inr ⟨ne, rfl, rfl, fun i hi => (seO_at hi).symm, by show r.2.1 ≠ -1; omega⟩
      rcases ih with ⟨_, hx, hy⟩ | ⟨_, h1, h2, h3, h4⟩
      · rw [if_pos ⟨hp, Or.inl (by rw [hx]; show r.2.1 < (N : Int) + 1; omega)⟩, if_pos (Or.inl (by rw [hy]))]
        exact nw
      · by_cases c : r.2.1 < x.1 ∨ (r.2.1 = x.1 ∧ r.1 < x.2.1)
        · rw [if_pos ⟨hp, c⟩, if_pos (Or.inr (by rw [← h1, ← h2]; exact c))]
          exact nw
        · rw [if_neg (fun t => c t.2), if_neg (fun t => by
            rcases t with t | t
            · exact h4 t
            · rw [← h1, ← h2] at t; exact c t)]
          exact Or.inr ⟨ne, h1, h2, h3, h4⟩
    · rw [if_neg hp] at s1
      rw [s1, if_neg (fun t => hp t.1)]
      exact ih
theorem boA_eq {K : Int → Int} {B w wh : Int} (hv : kV K B) (w0 : 0 ≤ w) (w1 : w < K 3) (hb : boV wh) : boA (boI (lgK K w) (duK K w) (K 89) (K (93 + w)).toNat ((K (93 + w)).toNat ^ (K (93 + w)).toNat)) (K (93 + w)).toNat wh = boA (boK K w) (K (93 + w)).toNat wh := by
  have en := (kV_e hv w0 w1).1
  have f := boI_fold hv w0 w1 ((K (93 + w)).toNat ^ (K (93 + w)).toNat)
  rw [sel_n (by omega)] at f
  have ne := lvs_ne (K (93 + w)).toNat (by omega)
  unfold boK
  generalize boI (lgK K w) (duK K w) (K 89) (K (93 + w)).toNat ((K (93 + w)).toNat ^ (K (93 + w)).toNat) = x at f ⊢
  generalize (lvs (K (93 + w)).toNat (K (93 + w)).toNat [] 0).foldl (btS K w (K (93 + w)).toNat) (-1, 0, fun _ => 0) = y at f ⊢
  rcases f with ⟨f, _⟩ | ⟨_, h1, h2, h3, _⟩
  · exact absurd f ne
  · unfold boA
    rw [h1, h2]
    unfold boV at hb
    by_cases e0 : wh = 0
    · rw [if_pos e0, if_pos e0]
    · rw [if_neg e0, if_neg e0]
      by_cases e1 : wh = 1
      · rw [if_pos e1, if_pos e1]
      · rw [if_neg e1, if_neg e1]
        by_cases e2 : wh - 10 < ((K (93 + w)).toNat : Nat)
        · rw [if_pos e2, if_pos e2]
          have := h3 (wh - 10).toNat (by omega)
          rw [show (((wh - 10).toNat : Nat) : Int) = wh - 10 by omega] at this
          exact this
        · rw [if_neg e2, if_neg e2]
theorem k140 {d : Nat} {k w wh B : Int} {K : Int → Int} {T : Tt} {σ : St} {Q : vmO → vmH → Prop} (ht : tie σ 2 K) (hv : kV K B) (hB : B < 900000000) (x0 : -2147483648 ≤ w) (x1 : w < 2147483648) (y0 : -2147483648 ≤ wh) (y1 : wh < 2147483648)
    (hQ1 : ¬ (0 ≤ w ∧ w < K 3) → Q (.inr 0) (E (thr T) σ))
    (hQ2 : (0 ≤ w ∧ w < K 3) → ¬ boV wh → Q (.inr 1) (E (thr T) σ))
    (hQ3 : (0 ≤ w ∧ w < K 3) → boV wh → ∀ τ, sg σ τ → Q (.inl (some (.int (i32 (boA (boK K w) (K (93 + w)).toNat wh))))) (E T τ)) : Ca (d + 10) k 140 [.ref 0, .int (i32 w), .int (i32 wh)] (E T σ) Q := by
  have hW := tie_hp ht hv (show B < 1000000000 by omega)
  have e3 := tk3 ht
  have k89 : 0 ≤ K 89 ∧ K 89 ≤ B := hv.2.1.2.2.1
  have t9 := tk89 ht
  refine c140 (n := (K (93 + w)).toNat) hW (tie_hpE ht hv) (by omega) (by omega) x0 x1 y0 y1 (fun a => tk6 ht hv a.1 (by rw [← e3]; exact a.2)) (fun a => hQ1 (by rw [← e3]; exact a)) (fun a b => hQ2 ⟨a, by rw [← e3]; exact b⟩) (fun a b c τ hs => ?_)
  rw [e3] at b
  have en := (kV_e hv a b).1
  have be : boI (lgW σ (K 1) (K 2) (nK K) w) (duW σ w) (σ 704 10 0) (K (93 + w)).toNat ((K (93 + w)).toNat ^ (K (93 + w)).toNat) = boI (lgK K w) (duK K w) (K 89) (K (93 + w)).toNat ((K (93 + w)).toNat ^ (K (93 + w)).toNat) := by
    rw [t9]
    exact (boI_cg (lgK_ok hv a b) (by omega) (fun i e i0 i1 e0 e1 => (lgE ht hv (by omega) a b i e i0 i1 e0 e1).symm) (fun e e0 e1 => (duE ht hv a b e e0 e1).symm) _).symm
  rw [be, boA_eq hv a b c]
  exact hQ3 ⟨a, b⟩ c τ hs
