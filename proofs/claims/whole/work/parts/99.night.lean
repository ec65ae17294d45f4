/-! ===== HedgePark: soonestIn, bestNight, grownTo ===== -/
theorem dD_far {W H t k : Int} {c c' : Int → Int} {N : Nat} (h : wh2 W H) (hc : csIn c (W * H)) (hc' : csIn c' (W * H)) (hN : (N : Int) = W * H) (hcc : ∀ j, 0 ≤ j → j < W * H → c j = -1 → c' j = -1) (hcc' : ∀ j, 0 ≤ j → j < W * H → c' j = -1 → c j = -1) (t0 : 0 ≤ t) (t1 : t < W * H) (k0 : 0 ≤ k) (k1 : k < W * H) (hf : dD W H c t N k < far) : dD W H c' t N k < far := by
  have hm := wh_mul h
  have hfar : far = 1000000000 := rfl
  refine Classical.byContradiction fun hno => ?_
  have g := (dD_gr (t := t) h hc hN).2.2 (fun j => if dD W H c' t N j < far then 0 else far) (fun j j0 j1 => by
    rw [std_at j0 (by omega)]
    by_cases e : j = t ∧ c t ≠ -1
    · rw [if_pos e]
      have : dD W H c' t N j = 0 := by rw [e.1]; exact dD_0 h hc' hN t0 t1 (fun z => e.2 (hcc' t t0 t1 z))
      rw [this, if_pos (by omega)]
      omega
    · rw [if_neg e]; split <;> omega) (fun j d j0 j1 d0 d1 hn hcn => by
    dsimp only
    have hi := nb_in h j0 j1 hn
    have hb := hc _ hi.1 hi.2.1
    by_cases e : dD W H c' t N j < far
    · have a := (dD_gr (t := t) h hc' hN).2.1 j d j0 j1 d0 d1 hn (fun z => hcn (hcc' _ hi.1 hi.2.1 z))
      have b := hc' _ hi.1 hi.2.1
      rcases dD_bnd (z := t) h hc' hN j0 (by omega : j < 36) with e1 | e1
      · rw [if_pos e, if_pos (by omega)]; omega
      · omega
    · rw [if_neg e]; split <;> omega) k k0 k1
  rw [if_neg hno] at g
  omega
theorem hgB_agr {f f' : Int → Int} (h : agr 36 f f') : hgB f = hgB f' := by
  funext k
  unfold hgB
  by_cases e : 0 ≤ k ∧ k < 36
  · rw [h k e.1 e.2]
  · rw [decide_eq_false (fun z => e ⟨z.1, z.2.1⟩), decide_eq_false (fun z => e ⟨z.1, z.2.1⟩)]
theorem grB_agr {W H nt z : Int} {kd kd' tk tk' cd : Int → Int} {n : Nat} (h1 : agr 36 kd kd') (h2 : agr 36 tk tk') (z0 : 0 ≤ z) (z1 : z < 36) : grB W H kd tk nt cd n z = grB W H kd' tk' nt cd n z := by
  have e : fct W H kd tk nt z = fct W H kd' tk' nt z := by
    unfold fct
    rw [hgB_agr h1, h1 z z0 z1, h2 z z0 z1]
  unfold grB
  rw [e, hgB_agr h1, h2 z z0 z1]
theorem ngT_agr {W H nt : Int} {kd kd' tk tk' cd : Int → Int} {many N : Nat} (hN : N ≤ 36) (h1 : agr 36 kd kd') (h2 : agr 36 tk tk') (n : Nat) : agr 36 (ngT W H kd cd many N tk nt n) (ngT W H kd' cd many N tk' nt n) := by
  induction n with
  | zero => exact h2
  | succ n ih =>
    intro j j0 j1
    simp only [ngT]
    unfold cp thk
    rw [ih j j0 j1, grB_agr h1 ih j0 j1]
/-- the costs of a walker behind n nights -/
def prN (σ : St) (W H : Int) (N many : Nat) (w : Int) (n : Nat) : Int → Int := cst (σ 700 10) (ngT W H (σ 700 10) (σ 300 7) many N (σ 701 10) (σ 705 10 0) n) (wiB (σ 403 3 0) (σ 705 10 0 + n)) (frB (σ 405 3 0) w)
def dN (σ : St) (W H : Int) (N many : Nat) (w : Int) (n : Nat) : Int → Int := dD W H (prN σ W H N many w n) (σ 702 10 w) N
/-- the trial is the scene behind n nights -/
def tlK (σ τ : St) (W H : Int) (N many n : Nat) : Prop := sg σ τ ∧ agr 36 (τ 700 67) (σ 700 10) ∧ agr 36 (τ 701 67) (ngT W H (σ 700 10) (σ 300 7) many N (σ 701 10) (σ 705 10 0) n) ∧ τ 705 67 0 = σ 705 10 0 + n ∧ agr 5 (τ 702 67) (σ 702 10)
theorem tlK_sc {σ τ : St} {W H : Int} {N many n : Nat} (hW : hpW σ W H N) (hK : tlK σ τ W H N many n) (hnt : σ 705 10 0 + n < 1000000000) : scK τ 67 := by
  have hm := wh_mul0 hW.2.1
  have hNw := hW.2.2.1
  have hS := hW.2.2.2.2.2.2.2.2.2.1
  obtain ⟨h1, h2, h3, h4, h5⟩ := hK
  refine ⟨fun k k0 k1 => by rw [h2 k k0 k1]; exact hS.1 k k0 k1, fun k k0 k1 => by rw [h3 k k0 k1]; exact ngT_ok (by omega) hS.2.1 n k k0 k1, ?_, ?_⟩
  · have := hS.2.2.1; omega
  · omega
theorem prN_cs {σ : St} {W H w : Int} {N many n : Nat} (hW : hpW σ W H N) : csIn (prN σ W H N many w n) (W * H) := by
  have hm := wh_mul0 hW.2.1
  have hNw := hW.2.2.1
  have hS := hW.2.2.2.2.2.2.2.2.2.1
  intro k k0 k1
  exact cst_in hS.1 (ngT_ok (by omega) hS.2.1 n) k0 (by omega)
theorem cst_agr {f f' g g' : Int → Int} {wi fr : Bool} {z : Int} (h1 : f z = f' z) (h2 : g z = g' z) : cst f g wi fr z = cst f' g' wi fr z := by
  unfold cst
  rw [h1, h2]
/-- costs of the trial are laid -/
theorem sprT {d N many n : Nat} {k w W H : Int} {T : Tt} {σ τ : St} {Q : vmO → vmH → Prop} (hW : hpW σ W H N) (hK : tlK σ τ W H N many n) (hnt : σ 705 10 0 + n < 1000000000) (w0 : 0 ≤ w) (w1 : w < σ 404 3 0)
    (hQ : ∀ τ', tlK σ τ' W H N many n → agr 36 (τ' 1001 144) (dN σ W H N many w n) → frIn (τ' 1001 144) → Q (.inl none) (E T τ')) : Ca (d + 4) k 96 [.ref 144, .ref 3, .ref 67, .int (i32 w)] (E T τ) Q := by
  have h3 := ob_p3; have htr := ob_tr; have hwy := ob_wy
  have hm := wh_mul0 hW.2.1
  have hNw := hW.2.2.1
  have hWt := sg_hp hK.1 hW
  have w1t : w < τ 404 3 0 := by rw [hK.1 404 3 (by omega)]; exact w1
  obtain ⟨h, w5, a0, a1⟩ := hpW_w hW w0 w1
  have hP := (hpW_k hWt w0 w1t).1
  have hS := tlK_sc hW hK hnt
  have ea : τ 702 67 w = σ 702 10 w := hK.2.2.2.2 w w0 w5
  have hcs := cst_cs (e := τ 1000 144) (wi := wiB (τ 403 3 0) (τ 705 67 0)) (fr := frB (τ 405 3 0) w) (N := W * H) (by omega) hS.1 hS.2.1
  have hag : agr (W * H) (cp (prc τ 3 67 (frB (τ 405 3 0) w)) (τ 1000 144) (W * H)) (prN σ W H N many w n) := fun j j0 j1 => by
    rw [cp_lt j0 j1]
    unfold prc prN
    rw [hK.1 403 3 (by omega), hK.1 405 3 (by omega), hK.2.2.2.1]
    exact cst_agr (hK.2.1 j j0 (by omega)) (hK.2.2.1 j j0 (by omega))
  rw [c96 (N := N) hwy h3 htr hP hS hNw w0 w5 (by rw [ea]; exact a0) (by rw [ea]; exact a1), ea]
  have e0 : ∀ t o X C, t < 1000 → wyD (upA τ 1000 144 C) 144 X t o = τ t o := fun t o X C ht => wdt (by omega)
  refine hQ _ ⟨sg_t hK.1 sg_wd, ?_, ?_, ?_, ?_⟩ ?_ ?_
  · rw [e0 _ _ _ _ (by omega)]; exact hK.2.1
  · rw [e0 _ _ _ _ (by omega)]; exact hK.2.2.1
  · rw [e0 _ _ _ _ (by omega)]; exact hK.2.2.2.1
  · rw [e0 _ _ _ _ (by omega)]; exact hK.2.2.2.2
  · rw [wd1]
    exact spr_dD h hag hcs hNw a0 a1
  · rw [wd1]
    exact dj_frIn h hcs hNw
/-- the trial begins -/
theorem tlK_0 {σ : St} {W H : Int} {N many : Nat} : tlK σ (scB σ 67 10) W H N many 0 := by
  refine ⟨?_, ?_, ?_, ?_, ?_⟩
  · unfold scB
    exact sg_u (sg_u (sg_u (sg_u (sg_u (sg_u (sg_u sg_r (by omega)) (by omega)) (by omega)) (by omega)) (by omega)) (by omega)) (by omega)
  · intro j j0 j1; rw [scB_0, cp_lt j0 j1]
  · intro j j0 j1; rw [scB_1, cp_lt j0 j1]; rfl
  · rw [scB_5]; show σ 705 10 0 = σ 705 10 0 + ((0 : Nat) : Int); omega
  · intro j j0 j1; rw [scB_2, cp_lt j0 j1]
theorem sg_ns {σ τ : St} {F S tk : Int → Int} {nt tm : Int} (h : sg σ τ) : sg σ (nsS τ 141 67 F S tk nt tm) := by
  unfold nsS
  exact sg_u (sg_u (sg_u (sg_u (sg_u h (by omega)) (by omega)) (by omega)) (by omega)) (by omega)
/-- a night of the trial -/
theorem nghT {d N many n : Nat} {k W H : Int} {T : Tt} {σ τ : St} {Q : vmO → vmH → Prop} (hW : hpW σ W H N) (hL : hpL σ many) (hK : tlK σ τ W H N many n) (hnt : σ 705 10 0 + n < 1000000000)
    (hQ : ∀ v τ', tlK σ τ' W H N many (n + 1) → Q (.inl (some (.int (i32 v)))) (E T τ')) : Ca (d + 3) k 19 [.ref 141, .ref 3, .ref 67] (E T τ) Q := by
  have h3 := ob_p3; have htr := ob_tr; have hgr := ob_gr
  have hm := wh_mul0 hW.2.1
  have hNw := hW.2.2.1
  have hWt := sg_hp hK.1 hW
  have hS := tlK_sc hW hK hnt
  have e31 : τ 301 (3 + 4) = σ 301 7 := hK.1 301 7 (by omega)
  have e30 : τ 300 (3 + 4) = σ 300 7 := hK.1 300 7 (by omega)
  rw [← n_selfE (g := 141) htr]
  refine c19 (N := N) (many := many) (σ := τ) hgr h3 htr hWt.1 hW.2.1 hNw hS.1 hS.2.1 hS.2.2.1 (by have := hS.2.2.2; omega) (by rw [e31]; exact hL.1) hL.2.1 (by rw [e30]; exact hL.2.2) ?_
  intro F S
  refine hQ _ _ ⟨sg_ns hK.1, ?_, ?_, ?_, ?_⟩
  · rw [nst (by omega) (by omega) (by omega) (by omega) (by omega)]; exact hK.2.1
  · rw [ns1]
    intro j j0 j1
    simp only [ngT]
    rw [e30, hK.2.2.2.1]
    unfold cp thk
    rw [hK.2.2.1 j j0 j1, grB_agr hK.2.1 hK.2.2.1 j0 j1]
  · rw [ns5, hK.2.2.2.1]; dsimp only; omega
  · rw [nst (by omega) (by omega) (by omega) (by omega) (by omega)]; exact hK.2.2.2.2
theorem c147 {d N many : Nat} {k w z n W H : Int} {T : Tt} {σ : St} {Q : vmO → vmH → Prop} (hW : hpW σ W H N) (hL : hpL σ many) (hnt : σ 705 10 0 < 900000000) (x0 : -2147483648 ≤ w) (x1 : w < 2147483648) (z0 : -2147483648 ≤ z) (z1 : z < 2147483648) (y0 : -2147483648 ≤ n) (y1 : n < 2147483648)
    (hQ1 : ¬ ((0 ≤ w ∧ w < σ 404 3 0) ∧ (0 ≤ z ∧ z < N)) → Q (.inr 0) (E (thr T) σ))
    (hQ2 : 0 ≤ w → w < σ 404 3 0 → 0 ≤ z → z < N → ¬ (0 ≤ n ∧ n ≤ 99) → Q (.inr 1) (E (thr T) σ))
    (hQ3 : 0 ≤ w → w < σ 404 3 0 → 0 ≤ z → z < N → 0 ≤ n → n ≤ 99 → ∀ τ, sg σ τ → Q (.inl (some (.int (i32 (if dN σ W H N many w n.toNat z < far then dN σ W H N many w n.toNat z else -1))))) (E T τ)) : Ca (d + 10) k 147 [.ref 0, .int (i32 w), .int (i32 z), .int (i32 n)] (E T σ) Q := by
  have h0 := ob_hp; have h2 := ob_st; have h3 := ob_p3; have h10 := ob_n10; have htr := ob_tr; have hwy := ob_wy; have hgr := ob_gr
  have hm := wh_mul0 hW.2.1
  have hNw := hW.2.2.1
  have hN : σ 401 3 0 * σ 402 3 0 = (N : Int) := by rw [hW.1.1, hW.1.2.1, hW.2.2.1]
  rw [n147 _ _ _ _ _ _ _ _ _ h0]
  simp (disch := (first | assumption | omega | exact Nat.le_of_ble_eq_true rfl | rfl)) only [w147_0, w147_1, w147_2, w147_3, w147_6, w147_7, w147_10, w147_11, w147_13, w147_16, w147_17, w147_20, w147_21, w147_24, w147_25, w147_28, w147_29, w147_32, w147_35, w147_38, w147_39, w147_42, w147_43, w147_46, w147_49, w147_50, w147_53, w147_54, w147_57, w147_58, w147_59, w147_62, w147_63, w147_66, w147_69, w147_70, w147_73, w147_74, w147_77, w147_78, w147_81, w147_84, w147_85, w147_86, w147_89, Ko_n, Ko_v, vX_i, vX_r, vX_l, vX_j, reduceIte]
  rw [c165 hN (by omega) (by omega) hW.2.2.2.2.2.1 hW.2.2.2.2.2.2.1 x0 x1 z0 z1]
  by_cases hv : (0 ≤ w ∧ w < σ 404 3 0) ∧ (0 ≤ z ∧ z < (N : Int))
  · rw [if_pos hv]
    obtain ⟨⟨w0, w1⟩, k0, k1⟩ := hv
    by_cases hd : 0 ≤ n ∧ n ≤ 99
    · have hq := hQ3 w0 w1 k0 k1 hd.1 hd.2
      simp (disch := (first | assumption | omega | exact Nat.le_of_ble_eq_true rfl | rfl)) only [w147_0, w147_1, w147_2, w147_3, w147_6, w147_7, w147_10, w147_11, w147_13, w147_16, w147_17, w147_20, w147_21, w147_24, w147_25, w147_28, w147_29, w147_32, w147_35, w147_38, w147_39, w147_42, w147_43, w147_46, w147_49, w147_50, w147_53, w147_54, w147_57, w147_58, w147_59, w147_62, w147_63, w147_66, w147_69, w147_70, w147_73, w147_74, w147_77, w147_78, w147_81, w147_84, w147_85, w147_86, w147_89, Ko_n, Ko_v, vX_i, vX_r, vX_l, vX_j, reduceIte, Nat.reduceAdd, show ¬ n < 0 by omega, show ¬ 99 < n by omega]
      rw [c169 (by omega) (Or.inr rfl), if_neg (by omega)]
      simp (disch := (first | assumption | omega | exact Nat.le_of_ble_eq_true rfl | rfl)) only [w147_0, w147_1, w147_2, w147_3, w147_6, w147_7, w147_10, w147_11, w147_13, w147_16, w147_17, w147_20, w147_21, w147_24, w147_25, w147_28, w147_29, w147_32, w147_35, w147_38, w147_39, w147_42, w147_43, w147_46, w147_49, w147_50, w147_53, w147_54, w147_57, w147_58, w147_59, w147_62, w147_63, w147_66, w147_69, w147_70, w147_73, w147_74, w147_77, w147_78, w147_81, w147_84, w147_85, w147_86, w147_89, Ko_n, Ko_v, vX_i, vX_r, vX_l, vX_j, reduceIte, Nat.reduceAdd]
      rw [c81 htr h10]
      simp (disch := (first | assumption | omega | exact Nat.le_of_ble_eq_true rfl | rfl)) only [w147_0, w147_1, w147_2, w147_3, w147_6, w147_7, w147_10, w147_11, w147_13, w147_16, w147_17, w147_20, w147_21, w147_24, w147_25, w147_28, w147_29, w147_32, w147_35, w147_38, w147_39, w147_42, w147_43, w147_46, w147_49, w147_50, w147_53, w147_54, w147_57, w147_58, w147_59, w147_62, w147_63, w147_66, w147_69, w147_70, w147_73, w147_74, w147_77, w147_78, w147_81, w147_84, w147_85, w147_86, w147_89, Ko_n, Ko_v, vX_i, vX_r, vX_l, vX_j, reduceIte, Nat.reduceAdd]
      obtain ⟨m, rfl⟩ : ∃ m : Nat, n = m := ⟨n.toNat, by omega⟩
      rw [show ((m : Int)).toNat = m by omega] at hq
      have hK := tlK_0 (σ := σ) (W := W) (H := H) (N := N) (many := many)
      have hWt := sg_hp hK.1 hW
      have hS := tlK_sc hW hK (by omega)
      have e31 : scB σ 67 10 301 (3 + 4) = σ 301 7 := hK.1 301 7 (by omega)
      have e30 : scB σ 67 10 300 (3 + 4) = σ 300 7 := hK.1 300 7 (by omega)
      refine c18n (N := N) (many := many) hgr h3 htr hWt.1 hW.2.1 hNw hS.1 hS.2.1 hS.2.2.1 hS.2.2.2 (by rw [e31]; exact hL.1) hL.2.1 (by rw [e30]; exact hL.2.2) (by omega) ?_
      intro F S
      simp (disch := (first | assumption | omega | exact Nat.le_of_ble_eq_true rfl | rfl)) only [w147_0, w147_1, w147_2, w147_3, w147_6, w147_7, w147_10, w147_11, w147_13, w147_16, w147_17, w147_20, w147_21, w147_24, w147_25, w147_28, w147_29, w147_32, w147_35, w147_38, w147_39, w147_42, w147_43, w147_46, w147_49, w147_50, w147_53, w147_54, w147_57, w147_58, w147_59, w147_62, w147_63, w147_66, w147_69, w147_70, w147_73, w147_74, w147_77, w147_78, w147_81, w147_84, w147_85, w147_86, w147_89, Ko_n, Ko_v, vX_i, vX_r, vX_l, vX_j, reduceIte, Nat.reduceAdd]
      refine sprT (many := many) (n := m) hW ⟨sg_ns hK.1, ?_, ?_, ?_, ?_⟩ (by omega) w0 w1 ?_
      · rw [nst (by omega) (by omega) (by omega) (by omega) (by omega)]; exact hK.2.1
      · rw [ns1, e30, hK.2.2.2.1]
        have := ngT_agr (W := W) (H := H) (nt := σ 705 10 0 + ((0 : Nat) : Int)) (cd := σ 300 7) (many := many) (N := N) (by omega) hK.2.1 hK.2.2.1 m
        rw [show σ 705 10 0 + ((0 : Nat) : Int) = σ 705 10 0 by omega] at this ⊢
        exact this
      · rw [ns5, hK.2.2.2.1]; dsimp only; omega
      · rw [nst (by omega) (by omega) (by omega) (by omega) (by omega)]; exact hK.2.2.2.2
      · intro τ' hK' hF hfr
        have hi := hfr z k0 (by omega)
        simp (disch := (first | assumption | omega | exact Nat.le_of_ble_eq_true rfl | rfl)) only [w147_0, w147_1, w147_2, w147_3, w147_6, w147_7, w147_10, w147_11, w147_13, w147_16, w147_17, w147_20, w147_21, w147_24, w147_25, w147_28, w147_29, w147_32, w147_35, w147_38, w147_39, w147_42, w147_43, w147_46, w147_49, w147_50, w147_53, w147_54, w147_57, w147_58, w147_59, w147_62, w147_63, w147_66, w147_69, w147_70, w147_73, w147_74, w147_77, w147_78, w147_81, w147_84, w147_85, w147_86, w147_89, Ko_n, Ko_v, vX_i, vX_r, vX_l, vX_j, reduceIte, Nat.reduceAdd]
        rw [c171 (by omega) hi.1 hi.2, hF z k0 (by omega)]
        simp (disch := (first | assumption | omega | exact Nat.le_of_ble_eq_true rfl | rfl)) only [w147_0, w147_1, w147_2, w147_3, w147_6, w147_7, w147_10, w147_11, w147_13, w147_16, w147_17, w147_20, w147_21, w147_24, w147_25, w147_28, w147_29, w147_32, w147_35, w147_38, w147_39, w147_42, w147_43, w147_46, w147_49, w147_50, w147_53, w147_54, w147_57, w147_58, w147_59, w147_62, w147_63, w147_66, w147_69, w147_70, w147_73, w147_74, w147_77, w147_78, w147_81, w147_84, w147_85, w147_86, w147_89, Ko_n, Ko_v, vX_i, vX_r, vX_l, vX_j, reduceIte, Nat.reduceAdd]
        exact hq τ' hK'.1
    · have hq := hQ2 w0 w1 k0 k1 hd
      by_cases d2 : n < 0
      · simp (disch := (first | assumption | omega | exact Nat.le_of_ble_eq_true rfl | rfl)) only [w147_0, w147_1, w147_2, w147_3, w147_6, w147_7, w147_10, w147_11, w147_13, w147_16, w147_17, w147_20, w147_21, w147_24, w147_25, w147_28, w147_29, w147_32, w147_35, w147_38, w147_39, w147_42, w147_43, w147_46, w147_49, w147_50, w147_53, w147_54, w147_57, w147_58, w147_59, w147_62, w147_63, w147_66, w147_69, w147_70, w147_73, w147_74, w147_77, w147_78, w147_81, w147_84, w147_85, w147_86, w147_89, Ko_n, Ko_v, vX_i, vX_r, vX_l, vX_j, reduceIte, Nat.reduceAdd, d2]
        rw [c169 (by omega) (Or.inl rfl), if_pos rfl, Ko_x rfl]
        exact hq
      · simp (disch := (first | assumption | omega | exact Nat.le_of_ble_eq_true rfl | rfl)) only [w147_0, w147_1, w147_2, w147_3, w147_6, w147_7, w147_10, w147_11, w147_13, w147_16, w147_17, w147_20, w147_21, w147_24, w147_25, w147_28, w147_29, w147_32, w147_35, w147_38, w147_39, w147_42, w147_43, w147_46, w147_49, w147_50, w147_53, w147_54, w147_57, w147_58, w147_59, w147_62, w147_63, w147_66, w147_69, w147_70, w147_73, w147_74, w147_77, w147_78, w147_81, w147_84, w147_85, w147_86, w147_89, Ko_n, Ko_v, vX_i, vX_r, vX_l, vX_j, reduceIte, Nat.reduceAdd, d2, show 99 < n by omega]
        rw [c169 (by omega) (Or.inl rfl), if_pos rfl, Ko_x rfl]
        exact hq
  · rw [if_neg hv, Ko_x rfl]
    exact hQ1 hv
theorem c148 {d N many : Nat} {k w z n W H : Int} {T : Tt} {σ : St} {Q : vmO → vmH → Prop} (hW : hpW σ W H N) (hL : hpL σ many) (hnt : σ 705 10 0 < 900000000) (x0 : -2147483648 ≤ w) (x1 : w < 2147483648) (z0 : -2147483648 ≤ z) (z1 : z < 2147483648) (y0 : -2147483648 ≤ n) (y1 : n < 2147483648)
    (hQ1 : ¬ ((0 ≤ w ∧ w < σ 404 3 0) ∧ (0 ≤ z ∧ z < N)) → Q (.inr 0) (E (thr T) σ))
    (hQ2 : 0 ≤ w → w < σ 404 3 0 → 0 ≤ z → z < N → ¬ (0 ≤ n ∧ n ≤ 99) → Q (.inr 1) (E (thr T) σ))
    (hQ3 : 0 ≤ w → w < σ 404 3 0 → 0 ≤ z → z < N → 0 ≤ n → n ≤ 99 → ∀ τ, sg σ τ → Q (.inl (some (.int (i32 (fsI (fun i => dN σ W H N many w i.toNat z) (n.toNat + 1)).2)))) (E T τ)) : Ca (d + 10) k 148 [.ref 0, .int (i32 w), .int (i32 z), .int (i32 n)] (E T σ) Q := by
  have h0 := ob_hp; have h2 := ob_st; have h3 := ob_p3; have h10 := ob_n10; have htr := ob_tr; have hwy := ob_wy; have hgr := ob_gr
  have hm := wh_mul0 hW.2.1
  have hNw := hW.2.2.1
  have hfar : far = 1000000000 := rfl
  have hN : σ 401 3 0 * σ 402 3 0 = (N : Int) := by rw [hW.1.1, hW.1.2.1, hW.2.2.1]
  rw [n148 _ _ _ _ _ _ _ _ _ h0]
  simp (disch := (first | assumption | omega | exact Nat.le_of_ble_eq_true rfl | rfl)) only [w148_0, w148_1, w148_2, w148_3, w148_6, w148_7, w148_10, w148_11, w148_13, w148_16, w148_17, w148_20, w148_21, w148_24, w148_25, w148_28, w148_29, w148_32, w148_35, w148_38, w148_41, w148_43, w148_44, w148_46, w148_47, w148_51, w148_52, w148_55, w148_56, w148_59, w148_60, w148_63, w148_66, w148_67, w148_70, w148_71, w148_74, w148_75, w148_78, w148_81, w148_82, w148_83, w148_85, w148_88, w148_89, w148_92, w148_95, w148_96, w148_97, w148_99, w148_101, w148_103, w148_104, w148_107, w148_108, w148_111, w148_114, w148_115, w148_118, w148_121, w148_122, w148_125, w148_128, w148_130, Ko_n, Ko_v, vX_i, vX_r, vX_l, vX_j, reduceIte]
  rw [c165 hN (by omega) (by omega) hW.2.2.2.2.2.1 hW.2.2.2.2.2.2.1 x0 x1 z0 z1]
  by_cases hv : (0 ≤ w ∧ w < σ 404 3 0) ∧ (0 ≤ z ∧ z < (N : Int))
  · rw [if_pos hv]
    obtain ⟨⟨w0, w1⟩, k0, k1⟩ := hv
    by_cases hd : 0 ≤ n ∧ n ≤ 99
    · have hq := hQ3 w0 w1 k0 k1 hd.1 hd.2
      simp (disch := (first | assumption | omega | exact Nat.le_of_ble_eq_true rfl | rfl)) only [w148_0, w148_1, w148_2, w148_3, w148_6, w148_7, w148_10, w148_11, w148_13, w148_16, w148_17, w148_20, w148_21, w148_24, w148_25, w148_28, w148_29, w148_32, w148_35, w148_38, w148_41, w148_43, w148_44, w148_46, w148_47, w148_51, w148_52, w148_55, w148_56, w148_59, w148_60, w148_63, w148_66, w148_67, w148_70, w148_71, w148_74, w148_75, w148_78, w148_81, w148_82, w148_83, w148_85, w148_88, w148_89, w148_92, w148_95, w148_96, w148_97, w148_99, w148_101, w148_103, w148_104, w148_107, w148_108, w148_111, w148_114, w148_115, w148_118, w148_121, w148_122, w148_125, w148_128, w148_130, Ko_n, Ko_v, vX_i, vX_r, vX_l, vX_j, reduceIte, Nat.reduceAdd, show ¬ n < 0 by omega, show ¬ 99 < n by omega]
      rw [c169 (by omega) (Or.inr rfl), if_neg (by omega)]
      simp (disch := (first | assumption | omega | exact Nat.le_of_ble_eq_true rfl | rfl)) only [w148_0, w148_1, w148_2, w148_3, w148_6, w148_7, w148_10, w148_11, w148_13, w148_16, w148_17, w148_20, w148_21, w148_24, w148_25, w148_28, w148_29, w148_32, w148_35, w148_38, w148_41, w148_43, w148_44, w148_46, w148_47, w148_51, w148_52, w148_55, w148_56, w148_59, w148_60, w148_63, w148_66, w148_67, w148_70, w148_71, w148_74, w148_75, w148_78, w148_81, w148_82, w148_83, w148_85, w148_88, w148_89, w148_92, w148_95, w148_96, w148_97, w148_99, w148_101, w148_103, w148_104, w148_107, w148_108, w148_111, w148_114, w148_115, w148_118, w148_121, w148_122, w148_125, w148_128, w148_130, Ko_n, Ko_v, vX_i, vX_r, vX_l, vX_j, reduceIte, Nat.reduceAdd]
      rw [c81 htr h10]
      have loop : ∀ (m j : Nat) (τ : St), j + m = n.toNat + 1 → tlK σ τ W H N many j → (0 ≤ (fsI (fun i => dN σ W H N many w i.toNat z) j).1 ∧ (fsI (fun i => dN σ W H N many w i.toNat z) j).1 ≤ far) → Wp (d + 10) M_X11_bestNight 49 [.ref 0, .int (i32 w), .int (i32 z), .int (i32 n), .int (i32 (fsI (fun i => dN σ W H N many w i.toNat z) j).1), .int (i32 (fsI (fun i => dN σ W H N many w i.toNat z) j).2), .int (i32 j)] [] (E T τ) Q := by
        intro m
        induction m with
        | zero =>
          intro j τ hj hK hi
          have hj : j = n.toNat + 1 := by omega
          subst hj
          rw [w148_49]
          simp (disch := (first | assumption | omega | exact Nat.le_of_ble_eq_true rfl | rfl)) only [w148_0, w148_1, w148_2, w148_3, w148_6, w148_7, w148_10, w148_11, w148_13, w148_16, w148_17, w148_20, w148_21, w148_24, w148_25, w148_28, w148_29, w148_32, w148_35, w148_38, w148_41, w148_43, w148_44, w148_46, w148_47, w148_51, w148_52, w148_55, w148_56, w148_59, w148_60, w148_63, w148_66, w148_67, w148_70, w148_71, w148_74, w148_75, w148_78, w148_81, w148_82, w148_83, w148_85, w148_88, w148_89, w148_92, w148_95, w148_96, w148_97, w148_99, w148_101, w148_103, w148_104, w148_107, w148_108, w148_111, w148_114, w148_115, w148_118, w148_121, w148_122, w148_125, w148_128, w148_130, Ko_n, Ko_v, vX_i, vX_r, vX_l, vX_j, reduceIte, Nat.reduceAdd, show n < ((n.toNat + 1 : Nat) : Int) by omega]
          exact hq τ hK.1
        | succ m ih =>
          intro j τ hj hK hi
          have ih' := fun τ hK => ih (j + 1) τ (by omega) hK
          rw [w148_49]
          simp (disch := (first | assumption | omega | exact Nat.le_of_ble_eq_true rfl | rfl)) only [w148_0, w148_1, w148_2, w148_3, w148_6, w148_7, w148_10, w148_11, w148_13, w148_16, w148_17, w148_20, w148_21, w148_24, w148_25, w148_28, w148_29, w148_32, w148_35, w148_38, w148_41, w148_43, w148_44, w148_46, w148_47, w148_51, w148_52, w148_55, w148_56, w148_59, w148_60, w148_63, w148_66, w148_67, w148_70, w148_71, w148_74, w148_75, w148_78, w148_81, w148_82, w148_83, w148_85, w148_88, w148_89, w148_92, w148_95, w148_96, w148_97, w148_99, w148_101, w148_103, w148_104, w148_107, w148_108, w148_111, w148_114, w148_115, w148_118, w148_121, w148_122, w148_125, w148_128, w148_130, Ko_n, Ko_v, vX_i, vX_r, vX_l, vX_j, reduceIte, Nat.reduceAdd, show ¬ n < (j : Int) by omega]
          refine sprT hW hK (by omega) w0 w1 ?_
          intro τ' hK' hF hfr
          have hf := hfr z k0 (by omega)
          have hx := hF z k0 (by omega)
          simp only [fsI] at ih'
          rw [show ((j : Int)).toNat = j by omega, ← hx] at ih'
          by_cases c1 : τ' 1001 144 z < (fsI (fun i => dN σ W H N many w i.toNat z) j).1
          · rw [if_pos c1] at ih'
            simp (disch := (first | assumption | omega | exact Nat.le_of_ble_eq_true rfl | rfl)) only [w148_0, w148_1, w148_2, w148_3, w148_6, w148_7, w148_10, w148_11, w148_13, w148_16, w148_17, w148_20, w148_21, w148_24, w148_25, w148_28, w148_29, w148_32, w148_35, w148_38, w148_41, w148_43, w148_44, w148_46, w148_47, w148_51, w148_52, w148_55, w148_56, w148_59, w148_60, w148_63, w148_66, w148_67, w148_70, w148_71, w148_74, w148_75, w148_78, w148_81, w148_82, w148_83, w148_85, w148_88, w148_89, w148_92, w148_95, w148_96, w148_97, w148_99, w148_101, w148_103, w148_104, w148_107, w148_108, w148_111, w148_114, w148_115, w148_118, w148_121, w148_122, w148_125, w148_128, w148_130, Ko_n, Ko_v, vX_i, vX_r, vX_l, vX_j, reduceIte, Nat.reduceAdd, show ¬ (fsI (fun i => dN σ W H N many w i.toNat z) j).1 ≤ τ' 1001 144 z by omega]
            refine nghT hW hL hK' (by omega) ?_
            intro v τ2 hK2
            simp (disch := (first | assumption | omega | exact Nat.le_of_ble_eq_true rfl | rfl)) only [w148_0, w148_1, w148_2, w148_3, w148_6, w148_7, w148_10, w148_11, w148_13, w148_16, w148_17, w148_20, w148_21, w148_24, w148_25, w148_28, w148_29, w148_32, w148_35, w148_38, w148_41, w148_43, w148_44, w148_46, w148_47, w148_51, w148_52, w148_55, w148_56, w148_59, w148_60, w148_63, w148_66, w148_67, w148_70, w148_71, w148_74, w148_75, w148_78, w148_81, w148_82, w148_83, w148_85, w148_88, w148_89, w148_92, w148_95, w148_96, w148_97, w148_99, w148_101, w148_103, w148_104, w148_107, w148_108, w148_111, w148_114, w148_115, w148_118, w148_121, w148_122, w148_125, w148_128, w148_130, Ko_n, Ko_v, vX_i, vX_r, vX_l, vX_j, reduceIte, Nat.reduceAdd]
            exact ih' τ2 hK2 hf
          · rw [if_neg c1] at ih'
            simp (disch := (first | assumption | omega | exact Nat.le_of_ble_eq_true rfl | rfl)) only [w148_0, w148_1, w148_2, w148_3, w148_6, w148_7, w148_10, w148_11, w148_13, w148_16, w148_17, w148_20, w148_21, w148_24, w148_25, w148_28, w148_29, w148_32, w148_35, w148_38, w148_41, w148_43, w148_44, w148_46, w148_47, w148_51, w148_52, w148_55, w148_56, w148_59, w148_60, w148_63, w148_66, w148_67, w148_70, w148_71, w148_74, w148_75, w148_78, w148_81, w148_82, w148_83, w148_85, w148_88, w148_89, w148_92, w148_95, w148_96, w148_97, w148_99, w148_101, w148_103, w148_104, w148_107, w148_108, w148_111, w148_114, w148_115, w148_118, w148_121, w148_122, w148_125, w148_128, w148_130, Ko_n, Ko_v, vX_i, vX_r, vX_l, vX_j, reduceIte, Nat.reduceAdd, show (fsI (fun i => dN σ W H N many w i.toNat z) j).1 ≤ τ' 1001 144 z by omega]
            refine nghT hW hL hK' (by omega) ?_
            intro v τ2 hK2
            simp (disch := (first | assumption | omega | exact Nat.le_of_ble_eq_true rfl | rfl)) only [w148_0, w148_1, w148_2, w148_3, w148_6, w148_7, w148_10, w148_11, w148_13, w148_16, w148_17, w148_20, w148_21, w148_24, w148_25, w148_28, w148_29, w148_32, w148_35, w148_38, w148_41, w148_43, w148_44, w148_46, w148_47, w148_51, w148_52, w148_55, w148_56, w148_59, w148_60, w148_63, w148_66, w148_67, w148_70, w148_71, w148_74, w148_75, w148_78, w148_81, w148_82, w148_83, w148_85, w148_88, w148_89, w148_92, w148_95, w148_96, w148_97, w148_99, w148_101, w148_103, w148_104, w148_107, w148_108, w148_111, w148_114, w148_115, w148_118, w148_121, w148_122, w148_125, w148_128, w148_130, Ko_n, Ko_v, vX_i, vX_r, vX_l, vX_j, reduceIte, Nat.reduceAdd]
            exact ih' τ2 hK2 hi
      simp (disch := (first | assumption | omega | exact Nat.le_of_ble_eq_true rfl | rfl)) only [w148_0, w148_1, w148_2, w148_3, w148_6, w148_7, w148_10, w148_11, w148_13, w148_16, w148_17, w148_20, w148_21, w148_24, w148_25, w148_28, w148_29, w148_32, w148_35, w148_38, w148_41, w148_43, w148_44, w148_46, w148_47, w148_51, w148_52, w148_55, w148_56, w148_59, w148_60, w148_63, w148_66, w148_67, w148_70, w148_71, w148_74, w148_75, w148_78, w148_81, w148_82, w148_83, w148_85, w148_88, w148_89, w148_92, w148_95, w148_96, w148_97, w148_99, w148_101, w148_103, w148_104, w148_107, w148_108, w148_111, w148_114, w148_115, w148_118, w148_121, w148_122, w148_125, w148_128, w148_130, Ko_n, Ko_v, vX_i, vX_r, vX_l, vX_j, reduceIte, Nat.reduceAdd]
      exact loop _ 0 _ (Nat.zero_add _) tlK_0 ⟨by show (0 : Int) ≤ far; omega, Int.le_refl _⟩
    · have hq := hQ2 w0 w1 k0 k1 hd
      by_cases d2 : n < 0
      · simp (disch := (first | assumption | omega | exact Nat.le_of_ble_eq_true rfl | rfl)) only [w148_0, w148_1, w148_2, w148_3, w148_6, w148_7, w148_10, w148_11, w148_13, w148_16, w148_17, w148_20, w148_21, w148_24, w148_25, w148_28, w148_29, w148_32, w148_35, w148_38, w148_41, w148_43, w148_44, w148_46, w148_47, w148_51, w148_52, w148_55, w148_56, w148_59, w148_60, w148_63, w148_66, w148_67, w148_70, w148_71, w148_74, w148_75, w148_78, w148_81, w148_82, w148_83, w148_85, w148_88, w148_89, w148_92, w148_95, w148_96, w148_97, w148_99, w148_101, w148_103, w148_104, w148_107, w148_108, w148_111, w148_114, w148_115, w148_118, w148_121, w148_122, w148_125, w148_128, w148_130, Ko_n, Ko_v, vX_i, vX_r, vX_l, vX_j, reduceIte, Nat.reduceAdd, d2]
        rw [c169 (by omega) (Or.inl rfl), if_pos rfl, Ko_x rfl]
        exact hq
      · simp (disch := (first | assumption | omega | exact Nat.le_of_ble_eq_true rfl | rfl)) only [w148_0, w148_1, w148_2, w148_3, w148_6, w148_7, w148_10, w148_11, w148_13, w148_16, w148_17, w148_20, w148_21, w148_24, w148_25, w148_28, w148_29, w148_32, w148_35, w148_38, w148_41, w148_43, w148_44, w148_46, w148_47, w148_51, w148_52, w148_55, w148_56, w148_59, w148_60, w148_63, w148_66, w148_67, w148_70, w148_71, w148_74, w148_75, w148_78, w148_81, w148_82, w148_83, w148_85, w148_88, w148_89, w148_92, w148_95, w148_96, w148_97, w148_99, w148_101, w148_103, w148_104, w148_107, w148_108, w148_111, w148_114, w148_115, w148_118, w148_121, w148_122, w148_125, w148_128, w148_130, Ko_n, Ko_v, vX_i, vX_r, vX_l, vX_j, reduceIte, Nat.reduceAdd, d2, show 99 < n by omega]
        rw [c169 (by omega) (Or.inl rfl), if_pos rfl, Ko_x rfl]
        exact hq
  · rw [if_neg hv, Ko_x rfl]
    exact hQ1 hv
theorem dN_far {σ : St} {W H w z : Int} {N many i j : Nat} (hW : hpW σ W H N) (w0 : 0 ≤ w) (w1 : w < σ 404 3 0) (z0 : 0 ≤ z) (z1 : z < N) (hf : dN σ W H N many w i z < far) : dN σ W H N many w j z < far := by
  obtain ⟨h, w5, a0, a1⟩ := hpW_w hW w0 w1
  have hm := wh_mul h
  have hNw := hW.2.2.1
  have hS := hW.2.2.2.2.2.2.2.2.2.1
  have key : ∀ (a b : Nat) (x : Int), 0 ≤ x → x < W * H → prN σ W H N many w a x = -1 → prN σ W H N many w b x = -1 := fun a b x x0 x1 hx => by
    have ha := ngT_ok (W := W) (H := H) (nt := σ 705 10 0) (kd := σ 700 10) (cd := σ 300 7) (many := many) (by omega : N ≤ 36) hS.2.1 a x x0 (by omega)
    have hk := hS.1 x x0 (by omega)
    unfold prN cst at hx ⊢
    by_cases e : σ 700 10 x = 4
    · rw [if_pos e]
    · exfalso
      rw [if_neg e] at hx
      by_cases e2 : frB (σ 405 3 0) w = true ∨ σ 700 10 x = 0
      · rw [if_pos e2] at hx; omega
      · rw [if_neg e2] at hx
        have hp : 0 ≤ ngT W H (σ 700 10) (σ 300 7) many N (σ 701 10) (σ 705 10 0) a x * σ 700 10 x := Int.mul_nonneg ha.1 hk.1
        split at hx <;> omega
  exact dD_far h (prN_cs hW) (prN_cs hW) hNw (key i j) (key j i) a0 a1 z0 (by omega) hf
theorem c149 {d N many : Nat} {k w z c W H : Int} {T : Tt} {σ : St} {Q : vmO → vmH → Prop} (hW : hpW σ W H N) (hL : hpL σ many) (hnt : σ 705 10 0 < 900000000) (x0 : -2147483648 ≤ w) (x1 : w < 2147483648) (z0 : -2147483648 ≤ z) (z1 : z < 2147483648) (y0 : -2147483648 ≤ c) (y1 : c < 2147483648)
    (hQ1 : ¬ ((0 ≤ w ∧ w < σ 404 3 0) ∧ (0 ≤ z ∧ z < N)) → Q (.inr 0) (E (thr T) σ))
    (hQ2 : 0 ≤ w → w < σ 404 3 0 → 0 ≤ z → z < N → c < 0 → Q (.inr 1) (E (thr T) σ))
    (hQ3 : 0 ≤ w → w < σ 404 3 0 → 0 ≤ z → z < N → 0 ≤ c → ∀ τ, sg σ τ → Q (.inl (some (.int (i32 (fst1 (fun i => decide (dN σ W H N many w i z < far ∧ c ≤ dN σ W H N many w i z)) 100))))) (E T τ)) : Ca (d + 10) k 149 [.ref 0, .int (i32 w), .int (i32 z), .int (i32 c)] (E T σ) Q := by
  have h0 := ob_hp; have h2 := ob_st; have h3 := ob_p3; have h10 := ob_n10; have htr := ob_tr; have hwy := ob_wy; have hgr := ob_gr
  have hm := wh_mul0 hW.2.1
  have hNw := hW.2.2.1
  have hfar : far = 1000000000 := rfl
  have hN : σ 401 3 0 * σ 402 3 0 = (N : Int) := by rw [hW.1.1, hW.1.2.1, hW.2.2.1]
  rw [n149 _ _ _ _ _ _ _ _ _ h0]
  simp (disch := (first | assumption | omega | exact Nat.le_of_ble_eq_true rfl | rfl)) only [w149_0, w149_1, w149_2, w149_3, w149_6, w149_7, w149_10, w149_11, w149_14, w149_15, w149_18, w149_19, w149_22, w149_23, w149_26, w149_29, w149_32, w149_33, w149_37, w149_39, w149_42, w149_43, w149_46, w149_47, w149_50, w149_53, w149_54, w149_57, w149_58, w149_61, w149_62, w149_65, w149_68, w149_69, w149_70, w149_73, w149_76, w149_77, w149_78, w149_79, w149_82, w149_85, w149_86, w149_87, w149_88, w149_91, w149_93, w149_94, w149_95, w149_98, w149_99, w149_102, w149_105, w149_106, w149_109, w149_112, w149_113, w149_116, w149_119, w149_120, Ko_n, Ko_v, vX_i, vX_r, vX_l, vX_j, reduceIte]
  rw [c165 hN (by omega) (by omega) hW.2.2.2.2.2.1 hW.2.2.2.2.2.2.1 x0 x1 z0 z1]
  by_cases hv : (0 ≤ w ∧ w < σ 404 3 0) ∧ (0 ≤ z ∧ z < (N : Int))
  · rw [if_pos hv]
    obtain ⟨⟨w0, w1⟩, k0, k1⟩ := hv
    by_cases hd : c < 0
    · simp (disch := (first | assumption | omega | exact Nat.le_of_ble_eq_true rfl | rfl)) only [w149_0, w149_1, w149_2, w149_3, w149_6, w149_7, w149_10, w149_11, w149_14, w149_15, w149_18, w149_19, w149_22, w149_23, w149_26, w149_29, w149_32, w149_33, w149_37, w149_39, w149_42, w149_43, w149_46, w149_47, w149_50, w149_53, w149_54, w149_57, w149_58, w149_61, w149_62, w149_65, w149_68, w149_69, w149_70, w149_73, w149_76, w149_77, w149_78, w149_79, w149_82, w149_85, w149_86, w149_87, w149_88, w149_91, w149_93, w149_94, w149_95, w149_98, w149_99, w149_102, w149_105, w149_106, w149_109, w149_112, w149_113, w149_116, w149_119, w149_120, Ko_n, Ko_v, vX_i, vX_r, vX_l, vX_j, reduceIte, Nat.reduceAdd, hd]
      rw [c169 (by omega) (Or.inl rfl), if_pos rfl, Ko_x rfl]
      exact hQ2 w0 w1 k0 k1 hd
    · have hq := hQ3 w0 w1 k0 k1 (by omega)
      simp (disch := (first | assumption | omega | exact Nat.le_of_ble_eq_true rfl | rfl)) only [w149_0, w149_1, w149_2, w149_3, w149_6, w149_7, w149_10, w149_11, w149_14, w149_15, w149_18, w149_19, w149_22, w149_23, w149_26, w149_29, w149_32, w149_33, w149_37, w149_39, w149_42, w149_43, w149_46, w149_47, w149_50, w149_53, w149_54, w149_57, w149_58, w149_61, w149_62, w149_65, w149_68, w149_69, w149_70, w149_73, w149_76, w149_77, w149_78, w149_79, w149_82, w149_85, w149_86, w149_87, w149_88, w149_91, w149_93, w149_94, w149_95, w149_98, w149_99, w149_102, w149_105, w149_106, w149_109, w149_112, w149_113, w149_116, w149_119, w149_120, Ko_n, Ko_v, vX_i, vX_r, vX_l, vX_j, reduceIte, Nat.reduceAdd, hd]
      rw [c169 (by omega) (Or.inr rfl), if_neg (by omega)]
      simp (disch := (first | assumption | omega | exact Nat.le_of_ble_eq_true rfl | rfl)) only [w149_0, w149_1, w149_2, w149_3, w149_6, w149_7, w149_10, w149_11, w149_14, w149_15, w149_18, w149_19, w149_22, w149_23, w149_26, w149_29, w149_32, w149_33, w149_37, w149_39, w149_42, w149_43, w149_46, w149_47, w149_50, w149_53, w149_54, w149_57, w149_58, w149_61, w149_62, w149_65, w149_68, w149_69, w149_70, w149_73, w149_76, w149_77, w149_78, w149_79, w149_82, w149_85, w149_86, w149_87, w149_88, w149_91, w149_93, w149_94, w149_95, w149_98, w149_99, w149_102, w149_105, w149_106, w149_109, w149_112, w149_113, w149_116, w149_119, w149_120, Ko_n, Ko_v, vX_i, vX_r, vX_l, vX_j, reduceIte, Nat.reduceAdd]
      rw [c81 htr h10]
      have loop : ∀ (m j : Nat) (τ : St), j + m = 100 → tlK σ τ W H N many j → (∀ i, i < j → (decide (dN σ W H N many w i z < far ∧ c ≤ dN σ W H N many w i z)) = false) → Wp (d + 10) M_X11_grownTo 35 [.ref 0, .int (i32 w), .int (i32 z), .int (i32 c), .int (i32 j)] [] (E T τ) Q := by
        intro m
        induction m with
        | zero =>
          intro j τ hj hK hb
          have hj : j = 100 := by omega
          subst hj
          have hq := hq τ hK.1
          rw [fst1_no 100 hb] at hq
          rw [w149_35]
          simp (disch := (first | assumption | omega | exact Nat.le_of_ble_eq_true rfl | rfl)) only [w149_0, w149_1, w149_2, w149_3, w149_6, w149_7, w149_10, w149_11, w149_14, w149_15, w149_18, w149_19, w149_22, w149_23, w149_26, w149_29, w149_32, w149_33, w149_37, w149_39, w149_42, w149_43, w149_46, w149_47, w149_50, w149_53, w149_54, w149_57, w149_58, w149_61, w149_62, w149_65, w149_68, w149_69, w149_70, w149_73, w149_76, w149_77, w149_78, w149_79, w149_82, w149_85, w149_86, w149_87, w149_88, w149_91, w149_93, w149_94, w149_95, w149_98, w149_99, w149_102, w149_105, w149_106, w149_109, w149_112, w149_113, w149_116, w149_119, w149_120, Ko_n, Ko_v, vX_i, vX_r, vX_l, vX_j, reduceIte, Nat.reduceAdd, show (99 : Int) < ((100 : Nat) : Int) by omega]
          exact hq
        | succ m ih =>
          intro j τ hj hK hb
          rw [w149_35]
          simp (disch := (first | assumption | omega | exact Nat.le_of_ble_eq_true rfl | rfl)) only [w149_0, w149_1, w149_2, w149_3, w149_6, w149_7, w149_10, w149_11, w149_14, w149_15, w149_18, w149_19, w149_22, w149_23, w149_26, w149_29, w149_32, w149_33, w149_37, w149_39, w149_42, w149_43, w149_46, w149_47, w149_50, w149_53, w149_54, w149_57, w149_58, w149_61, w149_62, w149_65, w149_68, w149_69, w149_70, w149_73, w149_76, w149_77, w149_78, w149_79, w149_82, w149_85, w149_86, w149_87, w149_88, w149_91, w149_93, w149_94, w149_95, w149_98, w149_99, w149_102, w149_105, w149_106, w149_109, w149_112, w149_113, w149_116, w149_119, w149_120, Ko_n, Ko_v, vX_i, vX_r, vX_l, vX_j, reduceIte, Nat.reduceAdd, show ¬ (99 : Int) < (j : Int) by omega]
          refine sprT hW hK (by omega) w0 w1 ?_
          intro τ' hK' hF hfr
          have hf := hfr z k0 (by omega)
          have hx := hF z k0 (by omega)
          by_cases c1 : τ' 1001 144 z < far
          · by_cases c2 : c ≤ τ' 1001 144 z
            · have hq := hq τ' hK'.1
              rw [fst1_at (n := j) (P := fun i => decide (dN σ W H N many w i z < far ∧ c ≤ dN σ W H N many w i z)) (by rw [← hx]; exact decide_eq_true ⟨c1, c2⟩) hb 100 (by omega)] at hq
              simp (disch := (first | assumption | omega | exact Nat.le_of_ble_eq_true rfl | rfl)) only [w149_0, w149_1, w149_2, w149_3, w149_6, w149_7, w149_10, w149_11, w149_14, w149_15, w149_18, w149_19, w149_22, w149_23, w149_26, w149_29, w149_32, w149_33, w149_37, w149_39, w149_42, w149_43, w149_46, w149_47, w149_50, w149_53, w149_54, w149_57, w149_58, w149_61, w149_62, w149_65, w149_68, w149_69, w149_70, w149_73, w149_76, w149_77, w149_78, w149_79, w149_82, w149_85, w149_86, w149_87, w149_88, w149_91, w149_93, w149_94, w149_95, w149_98, w149_99, w149_102, w149_105, w149_106, w149_109, w149_112, w149_113, w149_116, w149_119, w149_120, Ko_n, Ko_v, vX_i, vX_r, vX_l, vX_j, reduceIte, Nat.reduceAdd, show τ' 1001 144 z < 1000000000 by omega, show ¬ τ' 1001 144 z < c by omega]
              exact hq
            · simp (disch := (first | assumption | omega | exact Nat.le_of_ble_eq_true rfl | rfl)) only [w149_0, w149_1, w149_2, w149_3, w149_6, w149_7, w149_10, w149_11, w149_14, w149_15, w149_18, w149_19, w149_22, w149_23, w149_26, w149_29, w149_32, w149_33, w149_37, w149_39, w149_42, w149_43, w149_46, w149_47, w149_50, w149_53, w149_54, w149_57, w149_58, w149_61, w149_62, w149_65, w149_68, w149_69, w149_70, w149_73, w149_76, w149_77, w149_78, w149_79, w149_82, w149_85, w149_86, w149_87, w149_88, w149_91, w149_93, w149_94, w149_95, w149_98, w149_99, w149_102, w149_105, w149_106, w149_109, w149_112, w149_113, w149_116, w149_119, w149_120, Ko_n, Ko_v, vX_i, vX_r, vX_l, vX_j, reduceIte, Nat.reduceAdd, show τ' 1001 144 z < 1000000000 by omega, show τ' 1001 144 z < c by omega]
              refine nghT hW hL hK' (by omega) ?_
              intro v τ2 hK2
              simp (disch := (first | assumption | omega | exact Nat.le_of_ble_eq_true rfl | rfl)) only [w149_0, w149_1, w149_2, w149_3, w149_6, w149_7, w149_10, w149_11, w149_14, w149_15, w149_18, w149_19, w149_22, w149_23, w149_26, w149_29, w149_32, w149_33, w149_37, w149_39, w149_42, w149_43, w149_46, w149_47, w149_50, w149_53, w149_54, w149_57, w149_58, w149_61, w149_62, w149_65, w149_68, w149_69, w149_70, w149_73, w149_76, w149_77, w149_78, w149_79, w149_82, w149_85, w149_86, w149_87, w149_88, w149_91, w149_93, w149_94, w149_95, w149_98, w149_99, w149_102, w149_105, w149_106, w149_109, w149_112, w149_113, w149_116, w149_119, w149_120, Ko_n, Ko_v, vX_i, vX_r, vX_l, vX_j, reduceIte, Nat.reduceAdd]
              refine ih (j + 1) τ2 (by omega) hK2 ?_
              intro i hi
              by_cases e : i = j
              · rw [e, ← hx]; exact decide_eq_false (fun t => c2 t.2)
              · exact hb i (by omega)
          · have hq := hq τ' hK'.1
            rw [fst1_no 100 (fun i _ => decide_eq_false (fun t => c1 (by rw [hx]; exact dN_far hW w0 w1 k0 k1 t.1)))] at hq
            simp (disch := (first | assumption | omega | exact Nat.le_of_ble_eq_true rfl | rfl)) only [w149_0, w149_1, w149_2, w149_3, w149_6, w149_7, w149_10, w149_11, w149_14, w149_15, w149_18, w149_19, w149_22, w149_23, w149_26, w149_29, w149_32, w149_33, w149_37, w149_39, w149_42, w149_43, w149_46, w149_47, w149_50, w149_53, w149_54, w149_57, w149_58, w149_61, w149_62, w149_65, w149_68, w149_69, w149_70, w149_73, w149_76, w149_77, w149_78, w149_79, w149_82, w149_85, w149_86, w149_87, w149_88, w149_91, w149_93, w149_94, w149_95, w149_98, w149_99, w149_102, w149_105, w149_106, w149_109, w149_112, w149_113, w149_116, w149_119, w149_120, Ko_n, Ko_v, vX_i, vX_r, vX_l, vX_j, reduceIte, Nat.reduceAdd, show ¬ τ' 1001 144 z < 1000000000 by omega]
            exact hq
      simp (disch := (first | assumption | omega | exact Nat.le_of_ble_eq_true rfl | rfl)) only [w149_0, w149_1, w149_2, w149_3, w149_6, w149_7, w149_10, w149_11, w149_14, w149_15, w149_18, w149_19, w149_22, w149_23, w149_26, w149_29, w149_32, w149_33, w149_37, w149_39, w149_42, w149_43, w149_46, w149_47, w149_50, w149_53, w149_54, w149_57, w149_58, w149_61, w149_62, w149_65, w149_68, w149_69, w149_70, w149_73, w149_76, w149_77, w149_78, w149_79, w149_82, w149_85, w149_86, w149_87, w149_88, w149_91, w149_93, w149_94, w149_95, w149_98, w149_99, w149_102, w149_105, w149_106, w149_109, w149_112, w149_113, w149_116, w149_119, w149_120, Ko_n, Ko_v, vX_i, vX_r, vX_l, vX_j, reduceIte, Nat.reduceAdd]
      exact loop 100 0 _ (by omega) tlK_0 (fun i hi => by omega)
  · rw [if_neg hv, Ko_x rfl]
    exact hQ1 hv
