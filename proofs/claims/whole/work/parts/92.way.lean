/-! ===== HedgePark: way, dearest ===== -/
theorem std_at {c g : Int → Int} {t k : Int} (k0 : 0 ≤ k) (k1 : k < 36) : std c t g k = if k = t ∧ c t ≠ -1 then 0 else far := by
  unfold std
  by_cases e : c t = -1
  · rw [if_pos e, if_neg (fun z => z.2 e)]
    unfold fil
    rw [if_pos ⟨k0, k1⟩]
  · rw [if_neg e]
    by_cases e2 : k = t
    · rw [if_pos ⟨e2, e⟩, e2, fu_s]
    · rw [if_neg (fun z => e2 z.1), fu_n e2]
      unfold fil
      rw [if_pos ⟨k0, k1⟩]
theorem dD_gr {W H t : Int} {c : Int → Int} {N : Nat} (h : wh2 W H) (hc : csIn c (W * H)) (hN : (N : Int) = W * H) : gr1 W H c (std c t (fun _ => 0)) (dD W H c t N) := dj_gr h hc hN std_in
theorem dD_fr {W H t : Int} {c : Int → Int} {N : Nat} (h : wh2 W H) (hc : csIn c (W * H)) (hN : (N : Int) = W * H) : frIn (dD W H c t N) := dj_frIn h hc hN
theorem dD_0 {W H t : Int} {c : Int → Int} {N : Nat} (h : wh2 W H) (hc : csIn c (W * H)) (hN : (N : Int) = W * H) (t0 : 0 ≤ t) (t1 : t < W * H) (ht : c t ≠ -1) : dD W H c t N t = 0 := by
  have hm := wh_mul h
  have a := (dD_gr (t := t) h hc hN).1 t t0 t1
  rw [std_at t0 (by omega), if_pos ⟨rfl, ht⟩] at a
  have b := dD_fr (t := t) h hc hN t t0 (by omega)
  omega
theorem dD_by {W H t z : Int} {c : Int → Int} {N : Nat} (h : wh2 W H) (hc : csIn c (W * H)) (hN : (N : Int) = W * H) (z0 : 0 ≤ z) (z1 : z < W * H) (hz : z ≠ t) (hf : dD W H c t N z < far) : ∃ d : Int, 0 ≤ d ∧ d < 4 ∧ nbC W H z d ≠ -1 ∧ c z ≠ -1 ∧ dD W H c t N z = dD W H c t N (nbC W H z d) + c z := by
  have hm := wh_mul h
  exact gr1_by h (dD_gr h hc hN) z0 z1 (by rw [std_at z0 (by omega), if_neg (fun e => hz e.1)]; exact hf)
theorem dD_t {W H t z : Int} {c : Int → Int} {N : Nat} (h : wh2 W H) (hc : csIn c (W * H)) (hN : (N : Int) = W * H) (z0 : 0 ≤ z) (z1 : z < W * H) (hf : dD W H c t N z < far) : c t ≠ -1 := by
  intro e
  have hm := wh_mul h
  have := (dD_gr (t := t) h hc hN).2.2 (fun _ => far) (fun k k0 k1 => by rw [std_at k0 (by omega), if_neg (fun w => w.2 e)]; exact Int.le_refl _) (fun k d k0 k1 d0 d1 hn hcn => by
    have hi := nb_in h k0 k1 hn
    have := hc _ hi.1 hi.2.1
    dsimp only
    omega) z z0 z1
  omega
theorem onI_ok {W H z : Int} {c f : Int → Int} : ∀ m : Nat, m ≤ 4 → (∃ d : Int, 4 - (m : Int) ≤ d ∧ d < 4 ∧ nbC W H z d ≠ -1 ∧ f (nbC W H z d) + c z = f z) → ∃ d : Int, 0 ≤ d ∧ d < 4 ∧ onI W H c f z m = nbC W H z d ∧ nbC W H z d ≠ -1 ∧ f (nbC W H z d) + c z = f z
  | 0, _, ⟨d, h1, h2, _⟩ => by omega
  | m + 1, hm, ⟨d, h1, h2, h3, h4⟩ => by
    simp only [onI]
    by_cases e : nbC W H z (3 - m) ≠ -1 ∧ f (nbC W H z (3 - m)) + c z = f z
    · rw [if_pos e]
      exact ⟨3 - m, by omega, by omega, rfl, e.1, e.2⟩
    · rw [if_neg e]
      refine onI_ok m (by omega) ⟨d, ?_, h2, h3, h4⟩
      by_cases e2 : d = 3 - (m : Int)
      · rw [e2] at h3 h4
        exact absurd ⟨h3, h4⟩ e
      · omega
theorem onI_agr {W H z : Int} {c c' f f' : Int → Int} (h : wh2 W H) (hc : agr (W * H) c c') (hf : agr 36 f f') (z0 : 0 ≤ z) (z1 : z < W * H) : ∀ m : Nat, onI W H c f z m = onI W H c' f' z m
  | 0 => rfl
  | m + 1 => by
    have hm := wh_mul h
    simp only [onI]
    rw [onI_agr h hc hf z0 z1 m]
    by_cases e : nbC W H z (3 - m) = -1
    · rw [if_neg (fun w => w.1 e), if_neg (fun w => w.1 e)]
    · have hi := nb_in h z0 z1 e
      rw [hf _ hi.1 (by omega), hc z z0 z1, hf z z0 (by omega)]
theorem pt_s {W H z : Int} {c f : Int → Int} (n : Nat) : pt W H c f z (n + 1) = pt W H c f (onI W H c f z 4) n := by
  induction n with
  | zero => rfl
  | succ n ih =>
    show onI W H c f (pt W H c f z (n + 1)) 4 = onI W H c f (pt W H c f (onI W H c f z 4) n) 4
    rw [ih]
theorem pt_agr {W H z : Int} {c c' f f' : Int → Int} (h : wh2 W H) (hc : agr (W * H) c c') (hf : agr 36 f f') {m : Nat} (hi : ∀ i, i ≤ m → 0 ≤ pt W H c' f' z i ∧ pt W H c' f' z i < W * H) : ∀ i, i ≤ m → pt W H c f z i = pt W H c' f' z i
  | 0, _ => rfl
  | i + 1, hm => by
    show onI W H c f (pt W H c f z i) 4 = onI W H c' f' (pt W H c' f' z i) 4
    rw [pt_agr h hc hf hi i (by omega)]
    have := hi i (by omega)
    exact onI_agr h hc hf this.1 this.2 4
/-- a way's cells, from where it begins to where costs were laid from -/
def ptK (W H : Int) (c f : Int → Int) (z t : Int) (m : Nat) : Prop := (∀ i, i ≤ m → 0 ≤ pt W H c f z i ∧ pt W H c f z i < W * H ∧ f (pt W H c f z i) < far) ∧ (∀ i, i < m → pt W H c f z i ≠ t) ∧ pt W H c f z m = t
theorem pt_ex1 {W H t : Int} {c : Int → Int} {N : Nat} (h : wh2 W H) (hc : csIn c (W * H)) (hN : (N : Int) = W * H) : ∀ (n : Nat) (z : Int), 0 ≤ z → z < W * H → dD W H c t N z < far → (dD W H c t N z).toNat < n → ∃ m : Nat, (m : Int) ≤ cnt (fun k => decide (dD W H c t N k < dD W H c t N z)) N ∧ ptK W H c (dD W H c t N) z t m
  | 0, _, _, _, _, h0 => by omega
  | n + 1, z, z0, z1, hf, hn => by
    have hm := wh_mul h
    by_cases e : z = t
    · refine ⟨0, (cnt_in N).1, fun i hi => ?_, fun i hi => by omega, e⟩
      have : i = 0 := by omega
      rw [this]
      exact ⟨z0, z1, hf⟩
    · obtain ⟨d, d0, d1, h1, h2, h3⟩ := dD_by h hc hN z0 z1 e hf
      obtain ⟨d', p0, p1, p2, p3, p4⟩ := onI_ok (W := W) (H := H) (z := z) (c := c) (f := dD W H c t N) 4 (by omega) ⟨d, by omega, d1, h1, by omega⟩
      have hi := nb_in h z0 z1 p3
      have hcz := hc z z0 z1
      have hz := dD_fr (t := t) h hc hN (nbC W H z d') hi.1 (by omega)
      rw [← p2] at p4 hi hz
      obtain ⟨m, m1, m2, m3, m4⟩ := pt_ex1 (t := t) h hc hN n (onI W H c (dD W H c t N) z 4) hi.1 hi.2.1 (by omega) (by omega)
      refine ⟨m + 1, ?_, ?_, ?_, ?_⟩
      · have := cnt_lt (p := fun k => decide (dD W H c t N k < dD W H c t N (onI W H c (dD W H c t N) z 4))) (q := fun k => decide (dD W H c t N k < dD W H c t N z)) (j := (onI W H c (dD W H c t N) z 4).toNat) (by
          rw [show (((onI W H c (dD W H c t N) z 4).toNat : Nat) : Int) = onI W H c (dD W H c t N) z 4 by omega]
          exact decide_eq_true (by omega)) (by
          rw [show (((onI W H c (dD W H c t N) z 4).toNat : Nat) : Int) = onI W H c (dD W H c t N) z 4 by omega]
          exact decide_eq_false (by omega)) N (fun k _ hk => by
          have := of_decide_eq_true hk
          exact decide_eq_true (by omega)) (by omega)
        omega
      · intro i hi2
        cases i with
        | zero => exact ⟨z0, z1, hf⟩
        | succ i => rw [pt_s]; exact m2 i (by omega)
      · intro i hi2
        cases i with
        | zero => exact e
        | succ i => rw [pt_s]; exact m3 i (by omega)
      · rw [pt_s]; exact m4
theorem pt_ex {W H t z : Int} {c : Int → Int} {N : Nat} (h : wh2 W H) (hc : csIn c (W * H)) (hN : (N : Int) = W * H) (z0 : 0 ≤ z) (z1 : z < W * H) (hf : dD W H c t N z < far) : ∃ m : Nat, m ≤ 35 ∧ ptK W H c (dD W H c t N) z t m := by
  have hm := wh_mul h
  obtain ⟨m, h1, h2⟩ := pt_ex1 (t := t) h hc hN ((dD W H c t N z).toNat + 1) z z0 z1 hf (by omega)
  refine ⟨m, ?_, h2⟩
  have a := cnt_lt (p := fun k => decide (dD W H c t N k < dD W H c t N z)) (q := fun _ => true) (j := z.toNat) rfl (by
    rw [show ((z.toNat : Nat) : Int) = z by omega]
    exact decide_eq_false (by omega)) N (fun _ _ _ => rfl) (by omega)
  have b := (cnt_in (p := fun _ => true) N).2
  omega
/-- prices are laid -/
theorem prcZ {d N : Nat} {k W H : Int} {b : Bool} {T : Tt} {σ τ : St} {Q : vmO → vmH → Prop} (hW : hpW σ W H N) (hs : sg σ τ)
    (hQ : ∀ τ', sg σ τ' → agr (W * H) (τ' 1000 144) (prc σ 3 10 b) → Q (.inl none) (E T τ')) : Ca (d + 2) k 95 [.ref 144, .ref 3, .ref 10, .int (i32 (if b then 1 else 0))] (E T τ) Q := by
  have h3 := ob_p3; have hn := ob_n10; have hwy := ob_wy
  have hm := wh_mul0 hW.2.1
  have hWt := sg_hp hs hW
  have hS := hWt.2.2.2.2.2.2.2.2.2.1
  rw [c95 (N := W * H) hwy h3 hn hS.1 hS.2.1 hWt.2.2.2.1 hWt.2.2.2.2.1 hS.2.2.1 (by have := hS.2.2.2; omega) (by rw [hWt.1.1, hWt.1.2.1]) (by omega) (by omega)]
  refine hQ _ (sg_u hs (by omega)) ?_
  intro j j0 j1
  rw [upA_s, cp_lt j0 j1]
  unfold prc
  rw [hs 700 10 (by omega), hs 701 10 (by omega), hs 403 3 (by omega), hs 705 10 (by omega)]
/-- costs from a cell are laid -/
theorem sprZ {d N : Nat} {k W H z : Int} {T : Tt} {σ τ : St} {Q : vmO → vmH → Prop} {c : Int → Int} (hW : hpW σ W H N) (h : wh2 W H) (hcs : csIn c (W * H)) (hs : sg σ τ) (hC : agr (W * H) (τ 1000 144) c) (z0 : 0 ≤ z) (z1 : z < W * H)
    (hQ : ∀ τ', sg σ τ' → agr (W * H) (τ' 1000 144) c → agr 36 (τ' 1001 144) (dD W H c z N) → frIn (τ' 1001 144) → Q (.inl none) (E T τ')) : Ca (d + 3) k 98 [.ref 144, .ref 3, .int (i32 z)] (E T τ) Q := by
  have h3 := ob_p3; have hwy := ob_wy
  have hNw := hW.2.2.1
  have hWt := sg_hp hs hW
  have hct := agr_cs hC hcs
  rw [c98 (N := N) hwy h3 hWt.1 h hNw hct z0 z1]
  refine hQ _ (fun t o ht => by unfold wyD; rw [wyt (by omega) (by omega) (by omega) (by omega)]; exact hs t o ht) ?_ ?_ ?_
  · unfold wyD; rw [wyt (by omega) (by omega) (by omega) (by omega)]; exact hC
  · unfold wyD; rw [wy1]; exact spr_dD h hC hct hNw z0 z1
  · unfold wyD; rw [wy1]; exact dj_frIn h hct hNw
theorem fu_agr {n x v : Int} {f f' : Int → Int} (h : agr n f f') : agr n (fu f x v) (fu f' x v) := fun j j0 j1 => by
  by_cases e : j = x
  · rw [e, fu_s, fu_s]
  · rw [fu_n e, fu_n e]; exact h j j0 j1
theorem fu_cs {c : Int → Int} {N x : Int} (hc : csIn c N) : csIn (fu c x (-1)) N := fun j j0 j1 => by
  by_cases e : j = x
  · rw [e, fu_s]; omega
  · rw [fu_n e]; exact hc j j0 j1
/-- the cost if a cell were a wall -/
theorem woZ {d N : Nat} {k W H z t x : Int} {T : Tt} {σ τ : St} {Q : vmO → vmH → Prop} {c : Int → Int} (hW : hpW σ W H N) (h : wh2 W H) (hcs : csIn c (W * H)) (hs : sg σ τ) (hC : agr (W * H) (τ 1000 144) c) (z0 : 0 ≤ z) (z1 : z < W * H) (t0 : 0 ≤ t) (t1 : t < W * H) (x0 : 0 ≤ x) (x1 : x < W * H)
    (hQ : ∀ τ', sg σ τ' → agr (W * H) (τ' 1000 144) c → Q (.inl (some (.int (i32 (dD W H (fu c x (-1)) z N t))))) (E T τ')) : Ca (d + 4) k 99 [.ref 144, .ref 3, .int (i32 z), .int (i32 t), .int (i32 x)] (E T τ) Q := by
  have h3 := ob_p3; have hwy := ob_wy
  have hm := wh_mul h
  have hNw := hW.2.2.1
  have hWt := sg_hp hs hW
  have hct := agr_cs hC hcs
  rw [c99 (N := N) hwy h3 hWt.1 h hNw hct z0 z1 t0 t1 x0 x1, spr_dD h (fu_agr hC) (fu_cs hct) hNw z0 z1 t t0 (by omega)]
  refine hQ _ (fun t o ht => by unfold wyD; rw [wyt (by omega) (by omega) (by omega) (by omega)]; exact hs t o ht) ?_
  unfold wyD; rw [wyt (by omega) (by omega) (by omega) (by omega)]; exact hC
/-- a way is laid -/
theorem trcZ {d N : Nat} {k W H z t : Int} {T : Tt} {σ τ : St} {Q : vmO → vmH → Prop} {c : Int → Int} (hW : hpW σ W H N) (h : wh2 W H) (hcs : csIn c (W * H)) (hs : sg σ τ) (hC : agr (W * H) (τ 1000 144) c) (z0 : 0 ≤ z) (z1 : z < W * H) (t0 : 0 ≤ t) (t1 : t < W * H)
    (hQ1 : ¬ dD W H c t N z < far → ∀ τ', sg σ τ' → Q (.inl (some (.int (i32 (-1))))) (E T τ'))
    (hQ2 : dD W H c t N z < far → ∀ (m : Nat) (τ' : St), m ≤ 35 → ptK W H c (dD W H c t N) z t m → sg σ τ' → agr (W * H) (τ' 1000 144) c → (∀ i : Nat, i ≤ m → τ' 1003 144 i = pt W H c (dD W H c t N) z i) → Q (.inl (some (.int (i32 m)))) (E T τ')) : Ca (d + 4) k 105 [.ref 144, .ref 3, .int (i32 z), .int (i32 t)] (E T τ) Q := by
  have h3 := ob_p3; have hwy := ob_wy
  have hm := wh_mul h
  have hNw := hW.2.2.1
  have hWt := sg_hp hs hW
  have hct := agr_cs hC hcs
  have hag := spr_dD (g := τ 1001 144) (o := τ 1005 144) h hC hct hNw t0 t1
  have hsg : ∀ X : Dj, sg σ (wyD τ 144 X) := fun X t o ht => by unfold wyD; rw [wyt (by omega) (by omega) (by omega) (by omega)]; exact hs t o ht
  by_cases hf : dD W H c t N z < far
  · obtain ⟨m, m35, hK⟩ := pt_ex h hcs hNw z0 z1 hf
    have hpe := pt_agr h hC hag (m := m) (fun i hi => ⟨(hK.1 i hi).1, (hK.1 i hi).2.1⟩)
    rw [c105b (N := N) (m := m) hwy h3 hWt.1 h hNw hct z0 z1 t0 t1 (by rw [hag z z0 (by omega)]; exact hf) (by omega) (fun i hi => by rw [hpe i hi]; exact ⟨(hK.1 i hi).1, (hK.1 i hi).2.1⟩) (fun i hi => by rw [hpe i (by omega)]; exact hK.2.1 i hi) (by rw [hpe m (Nat.le_refl m)]; exact hK.2.2)]
    refine hQ2 hf m _ m35 hK (sg_u (hsg _) (by omega)) ?_ ?_
    · rw [upA_t (by omega)]; unfold wyD; rw [wyt (by omega) (by omega) (by omega) (by omega)]; exact hC
    · intro i hi
      rw [upA_s, rwI_at m i hi]
      exact hpe i hi
  · rw [c105a (N := N) hwy h3 hWt.1 h hNw hct z0 z1 t0 t1 (by rw [hag z z0 (by omega)]; exact hf)]
    exact hQ1 hf _ (hsg _)
def wyA (m : Int) (p : Nat → Int) (i : Int) : Int := if i = -1 then m else if 0 ≤ i ∧ i ≤ m then p i.toNat else -1
theorem c131 {d N : Nat} {k w z i W H : Int} {T : Tt} {σ : St} {Q : vmO → vmH → Prop} (hW : hpW σ W H N) (x0 : -2147483648 ≤ w) (x1 : w < 2147483648) (z0 : -2147483648 ≤ z) (z1 : z < 2147483648) (y0 : -2147483648 ≤ i) (y1 : i < 2147483648)
    (hQ1 : ¬ ((0 ≤ w ∧ w < σ 404 3 0) ∧ (0 ≤ z ∧ z < N)) → Q (.inr 0) (E (thr T) σ))
    (hQ2 : 0 ≤ w → w < σ 404 3 0 → 0 ≤ z → z < N → ¬ dD W H (prc σ 3 10 (frB (σ 405 3 0) w)) z N (σ 702 10 w) < far → ∀ τ, sg σ τ → Q (.inl (some (.int (i32 (-1))))) (E T τ))
    (hQ3 : 0 ≤ w → w < σ 404 3 0 → 0 ≤ z → z < N → dD W H (prc σ 3 10 (frB (σ 405 3 0) w)) z N (σ 702 10 w) < far → ∀ m : Nat, m ≤ 35 → ptK W H (prc σ 3 10 (frB (σ 405 3 0) w)) (dD W H (prc σ 3 10 (frB (σ 405 3 0) w)) z N) (σ 702 10 w) z m → ∀ τ, sg σ τ → Q (.inl (some (.int (i32 (wyA m (pt W H (prc σ 3 10 (frB (σ 405 3 0) w)) (dD W H (prc σ 3 10 (frB (σ 405 3 0) w)) z N) (σ 702 10 w)) i))))) (E T τ)) : Ca (d + 10) k 131 [.ref 0, .int (i32 w), .int (i32 z), .int (i32 i)] (E T σ) Q := by
  have h0 := ob_hp; have h2 := ob_st; have h3 := ob_p3; have hn := ob_n10; have hwy := ob_wy
  have hm := wh_mul0 hW.2.1
  have hNw := hW.2.2.1
  have hN : σ 401 3 0 * σ 402 3 0 = (N : Int) := by rw [hW.1.1, hW.1.2.1, hW.2.2.1]
  have v0 := hW.2.2.2.2.2.1
  have v1 := hW.2.2.2.2.2.2.1
  have u0 := hW.2.2.2.2.2.2.2.1
  have u1 := hW.2.2.2.2.2.2.2.2.1
  rw [n131 _ _ _ _ _ _ _ _ _ h0]
  simp (disch := (first | assumption | omega | exact Nat.le_of_ble_eq_true rfl | rfl)) only [w131_0, w131_1, w131_2, w131_3, w131_6, w131_7, w131_10, w131_11, w131_14, w131_17, w131_18, w131_21, w131_24, w131_25, w131_28, w131_31, w131_32, w131_35, w131_38, w131_39, w131_42, w131_43, w131_46, w131_49, w131_50, w131_53, w131_56, w131_59, w131_60, w131_61, w131_62, w131_65, w131_67, w131_68, w131_69, w131_72, w131_74, w131_75, w131_78, w131_80, w131_81, w131_82, w131_85, w131_86, w131_88, w131_91, w131_92, w131_95, w131_98, w131_99, w131_100, w131_103, w131_104, Ko_n, Ko_v, vX_i, vX_r, vX_l, vX_j, reduceIte]
  rw [c165 hN (by omega) (by omega) v0 v1 x0 x1 z0 z1]
  by_cases hv : (0 ≤ w ∧ w < σ 404 3 0) ∧ (0 ≤ z ∧ z < (N : Int))
  · rw [if_pos hv]
    obtain ⟨⟨w0, w1⟩, k0, k1⟩ := hv
    obtain ⟨h, w5, a0, a1⟩ := hpW_w hW w0 w1
    simp (disch := (first | assumption | omega | exact Nat.le_of_ble_eq_true rfl | rfl)) only [w131_0, w131_1, w131_2, w131_3, w131_6, w131_7, w131_10, w131_11, w131_14, w131_17, w131_18, w131_21, w131_24, w131_25, w131_28, w131_31, w131_32, w131_35, w131_38, w131_39, w131_42, w131_43, w131_46, w131_49, w131_50, w131_53, w131_56, w131_59, w131_60, w131_61, w131_62, w131_65, w131_67, w131_68, w131_69, w131_72, w131_74, w131_75, w131_78, w131_80, w131_81, w131_82, w131_85, w131_86, w131_88, w131_91, w131_92, w131_95, w131_98, w131_99, w131_100, w131_103, w131_104, Ko_n, Ko_v, vX_i, vX_r, vX_l, vX_j, reduceIte, Nat.reduceAdd, c27]
    refine prcZ hW sg_r ?_
    intro τ hs hC
    simp (disch := (first | assumption | omega | exact Nat.le_of_ble_eq_true rfl | rfl)) only [w131_0, w131_1, w131_2, w131_3, w131_6, w131_7, w131_10, w131_11, w131_14, w131_17, w131_18, w131_21, w131_24, w131_25, w131_28, w131_31, w131_32, w131_35, w131_38, w131_39, w131_42, w131_43, w131_46, w131_49, w131_50, w131_53, w131_56, w131_59, w131_60, w131_61, w131_62, w131_65, w131_67, w131_68, w131_69, w131_72, w131_74, w131_75, w131_78, w131_80, w131_81, w131_82, w131_85, w131_86, w131_88, w131_91, w131_92, w131_95, w131_98, w131_99, w131_100, w131_103, w131_104, Ko_n, Ko_v, vX_i, vX_r, vX_l, vX_j, reduceIte, Nat.reduceAdd]
    rw [hs 702 10 (by omega)]
    refine trcZ hW h (prc_cs hW) hs hC a0 a1 k0 (by omega) ?_ ?_
    · intro hf τ' hs'
      by_cases hi : i = -1
      · subst hi
        simp (disch := (first | assumption | omega | exact Nat.le_of_ble_eq_true rfl | rfl)) only [w131_0, w131_1, w131_2, w131_3, w131_6, w131_7, w131_10, w131_11, w131_14, w131_17, w131_18, w131_21, w131_24, w131_25, w131_28, w131_31, w131_32, w131_35, w131_38, w131_39, w131_42, w131_43, w131_46, w131_49, w131_50, w131_53, w131_56, w131_59, w131_60, w131_61, w131_62, w131_65, w131_67, w131_68, w131_69, w131_72, w131_74, w131_75, w131_78, w131_80, w131_81, w131_82, w131_85, w131_86, w131_88, w131_91, w131_92, w131_95, w131_98, w131_99, w131_100, w131_103, w131_104, Ko_n, Ko_v, vX_i, vX_r, vX_l, vX_j, reduceIte, Nat.reduceAdd]
        exact hQ2 w0 w1 k0 k1 hf τ' hs'
      · simp (disch := (first | assumption | omega | exact Nat.le_of_ble_eq_true rfl | rfl)) only [w131_0, w131_1, w131_2, w131_3, w131_6, w131_7, w131_10, w131_11, w131_14, w131_17, w131_18, w131_21, w131_24, w131_25, w131_28, w131_31, w131_32, w131_35, w131_38, w131_39, w131_42, w131_43, w131_46, w131_49, w131_50, w131_53, w131_56, w131_59, w131_60, w131_61, w131_62, w131_65, w131_67, w131_68, w131_69, w131_72, w131_74, w131_75, w131_78, w131_80, w131_81, w131_82, w131_85, w131_86, w131_88, w131_91, w131_92, w131_95, w131_98, w131_99, w131_100, w131_103, w131_104, Ko_n, Ko_v, vX_i, vX_r, vX_l, vX_j, reduceIte, Nat.reduceAdd, hi]
        exact hQ2 w0 w1 k0 k1 hf τ' hs'
    · intro hf m τ' m35 hK hs' hC' hrow
      have hq := hQ3 w0 w1 k0 k1 hf m m35 hK τ' hs'
      unfold wyA at hq
      by_cases hi : i = -1
      · rw [if_pos hi] at hq
        subst hi
        simp (disch := (first | assumption | omega | exact Nat.le_of_ble_eq_true rfl | rfl)) only [w131_0, w131_1, w131_2, w131_3, w131_6, w131_7, w131_10, w131_11, w131_14, w131_17, w131_18, w131_21, w131_24, w131_25, w131_28, w131_31, w131_32, w131_35, w131_38, w131_39, w131_42, w131_43, w131_46, w131_49, w131_50, w131_53, w131_56, w131_59, w131_60, w131_61, w131_62, w131_65, w131_67, w131_68, w131_69, w131_72, w131_74, w131_75, w131_78, w131_80, w131_81, w131_82, w131_85, w131_86, w131_88, w131_91, w131_92, w131_95, w131_98, w131_99, w131_100, w131_103, w131_104, Ko_n, Ko_v, vX_i, vX_r, vX_l, vX_j, reduceIte, Nat.reduceAdd]
        exact hq
      · rw [if_neg hi] at hq
        by_cases hj : 0 ≤ i ∧ i ≤ (m : Int)
        · rw [if_pos hj, ← hrow i.toNat (by omega), show ((i.toNat : Nat) : Int) = i by omega] at hq
          simp (disch := (first | assumption | omega | exact Nat.le_of_ble_eq_true rfl | rfl)) only [w131_0, w131_1, w131_2, w131_3, w131_6, w131_7, w131_10, w131_11, w131_14, w131_17, w131_18, w131_21, w131_24, w131_25, w131_28, w131_31, w131_32, w131_35, w131_38, w131_39, w131_42, w131_43, w131_46, w131_49, w131_50, w131_53, w131_56, w131_59, w131_60, w131_61, w131_62, w131_65, w131_67, w131_68, w131_69, w131_72, w131_74, w131_75, w131_78, w131_80, w131_81, w131_82, w131_85, w131_86, w131_88, w131_91, w131_92, w131_95, w131_98, w131_99, w131_100, w131_103, w131_104, Ko_n, Ko_v, vX_i, vX_r, vX_l, vX_j, reduceIte, Nat.reduceAdd, hi, show ¬ (m : Int) = -1 by omega, not_false_eq_true, show ¬ i < 0 by omega, show ¬ (m : Int) < i by omega]
          exact hq
        · rw [if_neg hj] at hq
          by_cases hl : i < 0
          · simp (disch := (first | assumption | omega | exact Nat.le_of_ble_eq_true rfl | rfl)) only [w131_0, w131_1, w131_2, w131_3, w131_6, w131_7, w131_10, w131_11, w131_14, w131_17, w131_18, w131_21, w131_24, w131_25, w131_28, w131_31, w131_32, w131_35, w131_38, w131_39, w131_42, w131_43, w131_46, w131_49, w131_50, w131_53, w131_56, w131_59, w131_60, w131_61, w131_62, w131_65, w131_67, w131_68, w131_69, w131_72, w131_74, w131_75, w131_78, w131_80, w131_81, w131_82, w131_85, w131_86, w131_88, w131_91, w131_92, w131_95, w131_98, w131_99, w131_100, w131_103, w131_104, Ko_n, Ko_v, vX_i, vX_r, vX_l, vX_j, reduceIte, Nat.reduceAdd, hi, show ¬ (m : Int) = -1 by omega, not_false_eq_true, hl]
            exact hq
          · simp (disch := (first | assumption | omega | exact Nat.le_of_ble_eq_true rfl | rfl)) only [w131_0, w131_1, w131_2, w131_3, w131_6, w131_7, w131_10, w131_11, w131_14, w131_17, w131_18, w131_21, w131_24, w131_25, w131_28, w131_31, w131_32, w131_35, w131_38, w131_39, w131_42, w131_43, w131_46, w131_49, w131_50, w131_53, w131_56, w131_59, w131_60, w131_61, w131_62, w131_65, w131_67, w131_68, w131_69, w131_72, w131_74, w131_75, w131_78, w131_80, w131_81, w131_82, w131_85, w131_86, w131_88, w131_91, w131_92, w131_95, w131_98, w131_99, w131_100, w131_103, w131_104, Ko_n, Ko_v, vX_i, vX_r, vX_l, vX_j, reduceIte, Nat.reduceAdd, hi, show ¬ (m : Int) = -1 by omega, not_false_eq_true, hl, show (m : Int) < i by omega]
            exact hq
  · rw [if_neg hv, Ko_x rfl]
    exact hQ1 hv
