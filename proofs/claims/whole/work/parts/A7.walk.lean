/-! ===== walk, clip, plant, nights, undo ===== -/
theorem cnt_cg {p q : Int → Bool} (n : Nat) (h : ∀ k : Nat, k < n → p k = q k) : cnt p n = cnt q n := by
  have a := cnt_le n (fun k hk e => by rw [← h k hk]; exact e : ∀ k : Nat, k < n → p k = true → q k = true)
  have b := cnt_le n (fun k hk e => by rw [h k hk]; exact e : ∀ k : Nat, k < n → q k = true → p k = true)
  omega
theorem gtK {σ : St} {s : Nat} {K : Int → Int} {B w z : Int} (hP : tpl σ 3 K) (hT : tsc σ s K 7) (hv : kV K B) (hB : B < 900000000) (w0 : 0 ≤ w) (w1 : w < K 3) (z0 : 0 ≤ z) (z1 : z < K 1 * K 2) : fS s σ (gtS σ 3 s (K 1) (K 2) w z (nK K)) ∧ tsc (gtS σ 3 s (K 1) (K 2) w z (nK K)) s (goK K w z (dK K w z)) 7 := by
  have hp := hv.1
  have hm := wh_mul0 hp.1
  have hW := tsc_W.mp hT
  have hS := tsc_sc hT hv.2.1 (by omega)
  obtain ⟨h, w5, a, a4⟩ := kV_w hv w0 w1
  have ea := (hW.2.1 w w0 w1).1
  have hcs := cst_cs (e := σ 1000 180) (wi := wiB (σ 403 3 0) (σ 705 s 0)) (fr := frB (σ 405 3 0) w) (N := K 1 * K 2) (by omega) hS.1 hS.2.1
  have hag : agr (K 1 * K 2) (cp (prc σ 3 s (frB (σ 405 3 0) w)) (σ 1000 180) (K 1 * K 2)) (prK K w) := fun j j0 j1 => by
    rw [cp_lt j0 j1]
    exact prE hP hT j j0 (by omega)
  have ed : (spr (K 1) (K 2) (cp (prc σ 3 s (frB (σ 405 3 0) w)) (σ 1000 180) (K 1 * K 2)) (σ 702 s w) (nK K) (σ 1001 180) (σ 1005 180)).1 z = dK K w z := by
    rw [ea]
    exact spr_dD h hag hcs (nK_c hp) a.1 a.2 z z0 (by omega)
  refine ⟨by unfold gtS wyD wyS; exact fS_u (fS_u (fS_u (fS_u (fS_u (fS_u (fS_u (fS_u fS_r (by omega)) (by omega)) (by omega)) (by omega)) (by omega)) (by omega)) (by omega)) (by omega), ?_⟩
  rw [tsc_W]
  unfold gtS
  rw [ed]
  obtain ⟨ga, gb, gc⟩ := goK_a (K := K) (z := z) (c := dK K w z) w0 w5
  have eo : ∀ t X C, t < 1000 → wyD (upA σ 1000 180 C) 180 X t s = σ t s := fun t X C ht => by
    unfold wyD
    rw [wyt (by omega) (by omega) (by omega) (by omega), upA_t (by omega)]
  refine ⟨?_, ?_, ?_, ?_, ?_⟩
  · intro j j0 j1
    rw [upA_t (by omega), upA_t (by omega), upA_t (by omega), eo _ _ _ (by omega), upA_t (by omega), upA_t (by omega), upA_t (by omega), eo _ _ _ (by omega), goK_o (j := 7 + j) w0 w5 (by omega), goK_o (j := 43 + j) w0 w5 (by omega)]
    exact hW.1 j j0 j1
  · intro v v0 v1
    rw [goK_o (j := 3) w0 w5 (by omega)] at v1
    have h3 := hp.2.1
    rw [upA_s, upA_t (by omega), upA_s]
    by_cases ew : v = w
    · rw [ew, fu_s, fu_s, ga, gb, (hW.2.1 w w0 w1).2]
      exact ⟨rfl, rfl⟩
    · rw [fu_n ew, fu_n ew, goK_o (j := 79 + v) w0 w5 (by omega), goK_o (j := 84 + v) w0 w5 (by omega)]
      exact hW.2.1 v v0 v1
  · rw [upA_t (by omega), upA_t (by omega), upA_s, gc, hW.2.2.1]
  · rw [upA_t (by omega), upA_t (by omega), upA_t (by omega), eo _ _ _ (by omega), goK_o (j := 90) w0 w5 (by omega)]
    exact hW.2.2.2.1
  · rw [upA_t (by omega), upA_t (by omega), upA_t (by omega), eo _ _ _ (by omega), goK_o (j := 91) w0 w5 (by omega)]
    exact hW.2.2.2.2
theorem shK {σ : St} {s : Nat} {K : Int → Int} {z m : Int} (hT : tsc σ s K 7) (z0 : 0 ≤ z) (z1 : z < 36) (h3 : K 3 ≤ 5) : fS s σ (shr σ s z m) ∧ tsc (shr σ s z m) s (clK K z m) 7 := by
  have hW := tsc_W.mp hT
  refine ⟨by unfold shr; exact fS_u (fS_u (fS_u fS_r (by omega)) (by omega)) (by omega), ?_⟩
  rw [tsc_W]
  unfold shr
  rw [(hW.1 z z0 z1).2]
  obtain ⟨ga, gb, gc⟩ := clK_a (K := K) (m := m) z0 z1
  refine ⟨?_, ?_, ?_, ?_, ?_⟩
  · intro j j0 j1
    rw [upA_s, upA_t (by omega), upA_s]
    by_cases ej : j = z
    · rw [ej, fu_s, ga, gc]
      refine ⟨?_, rfl⟩
      by_cases e0 : K (43 + z) - m = 0
      · rw [if_pos e0, if_pos e0, fu_s]
      · rw [if_neg e0, if_neg e0]; exact (hW.1 z z0 z1).1
    · rw [fu_n ej, clK_o (j := 7 + j) (by omega), clK_o (j := 43 + j) (by omega)]
      refine ⟨?_, (hW.1 j j0 j1).2⟩
      split
      · rw [fu_n ej]; exact (hW.1 j j0 j1).1
      · exact (hW.1 j j0 j1).1
  · intro w w0 w1
    rw [clK_o (j := 3) (by omega)] at w1
    rw [upA_t (by omega), upA_t (by omega), upA_t (by omega), upA_t (by omega), upA_t (by omega), upA_t (by omega), clK_o (j := 79 + w) (by omega), clK_o (j := 84 + w) (by omega)]
    exact hW.2.1 w w0 w1
  · rw [upA_t (by omega), upA_t (by omega), upA_t (by omega), clK_o (j := 89) (by omega)]; exact hW.2.2.1
  · rw [upA_t (by omega), upA_t (by omega), upA_t (by omega), clK_o (j := 90) (by omega)]; exact hW.2.2.2.1
  · rw [upA_t (by omega), upA_t (by omega), upA_s, gb, hW.2.2.2.2]
theorem puK {σ : St} {s : Nat} {K : Int → Int} {z kd : Int} {f g : Int → Int} (hT : tsc σ s K 7) (hf : σ 700 s = f) (hg : σ 701 s = g) (z0 : 0 ≤ z) (z1 : z < 36) (h3 : K 3 ≤ 5) : fS s σ (upA (upA σ 700 s (fu f z kd)) 701 s (fu g z 1)) ∧ tsc (upA (upA σ 700 s (fu f z kd)) 701 s (fu g z 1)) s (ptK2 K z kd) 7 := by
  subst hf
  subst hg
  have hW := tsc_W.mp hT
  refine ⟨fS_u (fS_u fS_r (by omega)) (by omega), ?_⟩
  rw [tsc_W]
  obtain ⟨ga, gb⟩ := ptK2_a (K := K) (z := z) (kd := kd)
  refine ⟨?_, ?_, ?_, ?_, ?_⟩
  · intro j j0 j1
    rw [upA_t (by omega), upA_s, upA_s]
    by_cases ej : j = z
    · rw [ej, fu_s, fu_s, ga, gb]; exact ⟨rfl, rfl⟩
    · rw [fu_n ej, fu_n ej, ptK2_o (j := 7 + j) (by omega), ptK2_o (j := 43 + j) (by omega)]
      exact hW.1 j j0 j1
  · intro w w0 w1
    rw [ptK2_o (j := 3) (by omega)] at w1
    rw [upA_t (by omega), upA_t (by omega), upA_t (by omega), upA_t (by omega), ptK2_o (j := 79 + w) (by omega), ptK2_o (j := 84 + w) (by omega)]
    exact hW.2.1 w w0 w1
  · rw [upA_t (by omega), upA_t (by omega), ptK2_o (j := 89) (by omega)]; exact hW.2.2.1
  · rw [upA_t (by omega), upA_t (by omega), ptK2_o (j := 90) (by omega)]; exact hW.2.2.2.1
  · rw [upA_t (by omega), upA_t (by omega), ptK2_o (j := 91) (by omega)]; exact hW.2.2.2.2
/-- nights, and how many grew -/
def ngI (K : Int → Int) : Nat → Int → Int
  | 0 => K
  | n + 1 => ngK (ngI K n)
def ngN (K : Int → Int) : Int := cnt (fun z => grK K z && decide (z < K 1 * K 2)) 64
def ngS (K : Int → Int) : Nat → Int
  | 0 => 0
  | n + 1 => ngS K n + ngN (ngI K n)
theorem ngI_o {K : Int → Int} (n : Nat) {j : Int} (h : j < 43 ∨ (79 ≤ j ∧ j < 89) ∨ 90 < j) : ngI K n j = K j := by
  induction n with
  | zero => rfl
  | succ n ih => simp only [ngI]; rw [ngK_o h]; exact ih
theorem ngI_90 {K : Int → Int} (n : Nat) : ngI K n 90 = K 90 + n := by
  induction n with
  | zero => show K 90 = K 90 + ((0 : Nat) : Int); omega
  | succ n ih => simp only [ngI]; rw [ngK_9.2, ih]; omega
theorem ngI_st {K : Int → Int} (n : Nat) : stK K (ngI K n) := fun j hj => ngI_o n (by omega)
theorem ngI_V {K : Int → Int} {B : Int} (hp : plV K) (hv : scV K 7 B) (n : Nat) : scV (ngI K n) 7 (B + n) := by
  induction n with
  | zero => exact scV_le (by omega) hv
  | succ n ih =>
    exact ngK_V (plV_st (ngI_st n) hp) (by omega) ih
/-- the class's nights are these -/
theorem ngI_E {kd tk cd K : Int → Int} {N : Nat} (hp : plV K) (hN : (N : Int) = K 1 * K 2) (hk : agr 36 kd (kdK K 7)) (ht : agr 36 tk (tkK K 7)) (hc : ∀ i : Nat, i < (K 5).toNat → cd i = cdK K i) (n : Nat) :
    agr 36 (ngT (K 1) (K 2) kd cd (K 5).toNat N tk (K 90) n) (tkK (ngI K n) 7) ∧ ngC (K 1) (K 2) kd cd (K 5).toNat N tk (K 90) n = ngS K n := by
  have hm := wh_mul0 hp.1
  have hg : ∀ (n : Nat) (z : Int), agr 36 (ngT (K 1) (K 2) kd cd (K 5).toNat N tk (K 90) n) (tkK (ngI K n) 7) → 0 ≤ z → z < 36 → grB (K 1) (K 2) kd (ngT (K 1) (K 2) kd cd (K 5).toNat N tk (K 90) n) (K 90 + n) cd (K 5).toNat z = grK (ngI K n) z := by
    intro n z ih z0 z1
    have hk2 : agr 36 kd (kdK (ngI K n) 7) := fun j j0 j1 => by
      rw [hk j j0 j1]
      exact (ngI_o n (j := 7 + j) (by omega)).symm
    rw [grB_agr hk2 ih z0 z1, grB_cd hc]
    unfold grK
    rw [ngI_o n (j := 1) (by omega), ngI_o n (j := 2) (by omega), ngI_o n (j := 5) (by omega), ngI_90]
    refine grB_cd (fun i _ => ?_)
    unfold cdK
    rw [ngI_o n (by omega)]
  induction n with
  | zero => exact ⟨ht, rfl⟩
  | succ n ih =>
    constructor
    · intro j j0 j1
      have e : tkK (ngI K (n + 1)) 7 j = ngK (ngI K n) (43 + j) := by
        unfold tkK
        rw [show (7 : Int) + 36 + j = 43 + j by omega]
        rfl
      rw [e, ngK_t j0 j1, ngI_o n (j := 1) (by omega), ngI_o n (j := 2) (by omega)]
      simp only [ngT]
      unfold cp thk
      rw [hg n j ih.1 j0 j1, ih.1 j j0 j1, hN]
      have e2 : tkK (ngI K n) 7 j = ngI K n (43 + j) := by
        unfold tkK
        rw [show (7 : Int) + 36 + j = 43 + j by omega]
      rw [e2]
      by_cases c1 : j < K 1 * K 2
      · rw [if_pos ⟨j0, c1⟩]
        by_cases c2 : grK (ngI K n) j = true
        · rw [if_pos c2, if_pos ⟨c1, c2⟩]
        · rw [if_neg c2, if_neg (fun t => c2 t.2)]
      · rw [if_neg (fun t => c1 t.2), if_neg (fun t => c1 t.1)]
    · simp only [ngC, ngS]
      rw [ih.2]
      congr 1
      unfold ngN
      rw [ngI_o n (j := 1) (by omega), ngI_o n (j := 2) (by omega)]
      refine cnt_cg 64 (fun m hm2 => ?_)
      rw [hN]
      by_cases c1 : (m : Int) < K 1 * K 2
      · rw [hg n m ih.1 (by omega) (by omega)]
      · rw [decide_eq_false c1, Bool.and_false, Bool.and_false]
theorem c121K {d : Nat} {k w z B : Int} {K : Int → Int} {T : Tt} {σ : St} {Q : vmO → vmH → Prop} (ht : tie σ 2 K) (hv : kV K B) (hB : B < 800000000) (x0 : -2147483648 ≤ w) (x1 : w < 2147483648) (z0 : -2147483648 ≤ z) (z1 : z < 2147483648)
    (hQ1 : ¬ ((0 ≤ w ∧ w < K 3) ∧ (0 ≤ z ∧ z < K 1 * K 2)) → Q (.inr 0) (E (thr T) σ))
    (hQ2 : 0 ≤ w → w < K 3 → 0 ≤ z → z < K 1 * K 2 → ¬ dK K w z < far → Q (.inl (some (.int (i32 (-1))))) (E T σ))
    (hQ3 : 0 ≤ w → w < K 3 → 0 ≤ z → z < K 1 * K 2 → dK K w z < far → ∀ τ, fM σ τ → tie τ 2 (goK (kpK K) w z (dK K w z)) → Q (.inl (some (.int (i32 (dK K w z))))) (E T τ)) : Ca (d + 10) k 121 [.ref 0, .int (i32 w), .int (i32 z)] (E T σ) Q := by
  have hW := tie_hp ht hv (by omega)
  have e4 : σ 404 3 0 = K 3 := ht.1.2.2.2.1
  have hN := nK_c hv.1
  have hm := wh_mul0 hv.1.1
  have h6 := hv.1.2.2.2.2.1
  have hS7 := tsc_W.mp ht.2.1
  have hsty := tie_sty ht hv
  have key : ∀ w, 0 ≤ w → w < K 3 → 0 ≤ z → z < K 1 * K 2 → (flI (K 1) (K 2) (opB (σ 700 10) (K 1 * K 2)) (σ 702 10 w) 36 z = true ↔ dK K w z < far) := fun w w0 w1 zz0 zz1 => by
    have ea : σ 702 10 w = K (79 + w) := (hS7.2.1 w w0 w1).1
    have eop : opB (σ 700 10) (K 1 * K 2) = opB (kdK K 7) (K 1 * K 2) := opB_agr (by omega) (tsc_k ht.2.1)
    rw [ea, eop]
    exact dK_fl hv w0 w1 zz0 zz1
  refine c121 (N := nK K) hW hsty x0 x1 z0 z1 ?_ ?_ ?_
  · rw [e4, hN]; exact hQ1
  · rw [e4, hN]
    intro w0 w1 k0 k1 hf
    exact hQ2 w0 w1 k0 k1 (fun h => by rw [(key w w0 w1 k0 k1).mpr h] at hf; cases hf)
  · rw [e4, hN]
    intro w0 w1 k0 k1 hf
    have hd := (key w w0 w1 k0 k1).mp hf
    obtain ⟨h, w5, a, a4⟩ := kV_w hv w0 w1
    have ea : σ 702 10 w = K (79 + w) := (hS7.2.1 w w0 w1).1
    have ed : dD (K 1) (K 2) (prc σ 3 10 (frB (σ 405 3 0) w)) (σ 702 10 w) (nK K) z = dK K w z := by
      rw [ea]
      exact dD_agr h (fun j j0 j1 => prE ht.1 ht.2.1 j j0 (by omega)) (prc_cs hW) hN a.1 a.2 z k0 (by omega)
    rw [ed]
    have hkv := kpK_V hv
    have lo := kpK_lo h6.1 h6.2
    have ht2 := stR_tie ht hv
    have e1 : kpK K 1 = K 1 := lo 1 (by omega)
    have e2 : kpK K 2 = K 2 := lo 2 (by omega)
    have e3 : kpK K 3 = K 3 := lo 3 (by omega)
    have en : nK (kpK K) = nK K := by unfold nK; rw [e1, e2]
    have g := gtK (s := 10) (w := w) (z := z) ht2.1 ht2.2.1 hkv (by omega) w0 (by rw [e3]; exact w1) k0 (by rw [e1, e2]; exact k1)
    have edk : dK (kpK K) w z = dK K w z := mdK_d (loK_md lo) hv w0 w1 k0 k1
    rw [e1, e2, en, edk] at g
    refine hQ3 w0 w1 k0 k1 hd _ (fM_t (stR_fM hsty) (fS_fM g.1)) ?_
    exact tie_act hkv.1 ht2 g.1 g.2 (goK_st w0 w5)
theorem c122K {d : Nat} {k z n B : Int} {K : Int → Int} {T : Tt} {σ : St} {Q : vmO → vmH → Prop} (ht : tie σ 2 K) (hv : kV K B) (hB : B < 800000000) (z0 : -2147483648 ≤ z) (z1 : z < 2147483648) (n0 : -2147483648 ≤ n) (n1 : n < 2147483648)
    (hQ1 : ¬ (0 ≤ z ∧ z < K 1 * K 2) → Q (.inr 0) (E (thr T) σ))
    (hQ2 : 0 ≤ z → z < K 1 * K 2 → hgB (kdK K 7) z = false → Q (.inr 2) (E (thr T) σ))
    (hQ3 : 0 ≤ z → z < K 1 * K 2 → hgB (kdK K 7) z = true → ¬ (1 ≤ n ∧ n ≤ 60) → Q (.inr 1) (E (thr T) σ))
    (hQ4 : 0 ≤ z → z < K 1 * K 2 → hgB (kdK K 7) z = true → 1 ≤ n → n ≤ 60 → ∀ τ, fM σ τ → tie τ 2 (clK (kpK K) z (min n (K (43 + z)))) → Q (.inl (some (.int (i32 (K (43 + z) - min n (K (43 + z))))))) (E T τ)) : Ca (d + 9) k 122 [.ref 0, .int (i32 z), .int (i32 n)] (E T σ) Q := by
  have hW := tie_hp ht hv (by omega)
  have hm := wh_mul0 hv.1.1
  have h6 := hv.1.2.2.2.2.1
  have h3 := hv.1.2.1
  have hS7 := tsc_W.mp ht.2.1
  have hS := hW.2.2.2.2.2.2.2.2.2.1
  have hsty := tie_sty ht hv
  have eh : hgB (σ 700 10) = hgB (kdK K 7) := hgB_agr (tsc_k ht.2.1)
  rw [c122 (N := K 1 * K 2) (by rw [hW.1.1, hW.1.2.1]) hm.1 hm.2 hsty hS.1 hS.2.1 z0 z1 n0 n1, eh]
  by_cases hz : 0 ≤ z ∧ z < K 1 * K 2
  · rw [if_pos hz]
    cases hh : hgB (kdK K 7) z with
    | false => rw [if_neg (by decide)]; exact hQ2 hz.1 hz.2 hh
    | true =>
      rw [if_pos rfl]
      by_cases hd : 1 ≤ n ∧ n ≤ 60
      · have e1 : σ 701 10 z = K (43 + z) := (hS7.1 z hz.1 (by omega)).2
        have ht2 := stR_tie ht hv
        have lo := kpK_lo h6.1 h6.2
        rw [if_pos hd, e1]
        have g := shK (s := 10) (m := min n (K (43 + z))) ht2.2.1 hz.1 (by omega : z < 36) (by rw [lo 3 (by omega)]; omega)
        exact hQ4 hz.1 hz.2 hh hd.1 hd.2 _ (fM_t (stR_fM hsty) (fS_fM g.1)) (tie_act (kpK_V hv).1 ht2 g.1 g.2 (clK_st hz.1 (by omega)))
      · rw [if_neg hd]; exact hQ3 hz.1 hz.2 hh hd
  · rw [if_neg hz]; exact hQ1 hz
theorem c123K {d : Nat} {k z n B : Int} {K : Int → Int} {T : Tt} {σ : St} {Q : vmO → vmH → Prop} (ht : tie σ 2 K) (hv : kV K B) (hB : B < 800000000) (z0 : -2147483648 ≤ z) (z1 : z < 2147483648) (n0 : -2147483648 ≤ n) (n1 : n < 2147483648)
    (hQ1 : ¬ (0 ≤ z ∧ z < K 1 * K 2) → Q (.inr 0) (E (thr T) σ))
    (hQ2 : 0 ≤ z → z < K 1 * K 2 → ¬ (1 ≤ n ∧ n ≤ 3) → Q (.inr 1) (E (thr T) σ))
    (hQ3 : 0 ≤ z → z < K 1 * K 2 → 1 ≤ n → n ≤ 3 → ¬ (K (7 + z) = 0 ∧ waK K z = 0) → Q (.inr 2) (E (thr T) σ))
    (hQ4 : 0 ≤ z → z < K 1 * K 2 → 1 ≤ n → n ≤ 3 → K (7 + z) = 0 → waK K z = 0 → ∀ τ, fM σ τ → tie τ 2 (ptK2 (kpK K) z n) → Q (.inl (some (.int (i32 (cnt (hgB (kdK (ptK2 (kpK K) z n) 7)) 64))))) (E T τ)) : Ca (d + 9) k 123 [.ref 0, .int (i32 z), .int (i32 n)] (E T σ) Q := by
  have hW := tie_hp ht hv (by omega)
  have hm := wh_mul0 hv.1.1
  have h6 := hv.1.2.2.2.2.1
  have h3 := hv.1.2.1
  have hS7 := tsc_W.mp ht.2.1
  have hS := hW.2.2.2.2.2.2.2.2.2.1
  have hsty := tie_sty ht hv
  have e4 : σ 404 3 0 = K 3 := ht.1.2.2.2.1
  rw [c123 (N := K 1 * K 2) (by rw [hW.1.1, hW.1.2.1]) hm.1 hm.2 hsty hS.1 (by omega) (by omega) (fun w hw => by have := hW.2.2.2.2.2.2.2.2.2.2 w hw; omega) z0 z1 n0 n1]
  by_cases hz : 0 ≤ z ∧ z < K 1 * K 2
  · rw [if_pos hz]
    by_cases hd : 1 ≤ n ∧ n ≤ 3
    · rw [if_pos hd]
      have e0 : σ 700 10 z = K (7 + z) := (hS7.1 z hz.1 (by omega)).1
      have ew : wa (σ 702 10) z (σ 404 3 0).toNat = waK K z := by
        rw [e4]
        exact wa_cg _ (fun j hj => (hS7.2.1 j (by omega) (by omega)).1)
      rw [e0, ew]
      by_cases hp : K (7 + z) = 0 ∧ waK K z = 0
      · rw [if_pos hp]
        have ht2 := stR_tie ht hv
        have lo := kpK_lo h6.1 h6.2
        have g := puK (s := 10) (kd := n) (f := σ 700 10) (g := σ 701 10) ht2.2.1 (stR_o (by omega) (by omega) (by omega)) (stR_o (by omega) (by omega) (by omega)) hz.1 (by omega : z < 36) (by rw [lo 3 (by omega)]; omega)
        have q := hQ4 hz.1 hz.2 hd.1 hd.2 hp.1 hp.2 _ (fM_t (stR_fM hsty) (fS_fM g.1)) (tie_act (kpK_V hv).1 ht2 g.1 g.2 (ptK2_st hz.1 (by omega)))
        have ehg : hgB (fu (σ 700 10) z n) = hgB (kdK (ptK2 (kpK K) z n) 7) := hgB_agr (fun j j0 j1 => by
          unfold kdK
          by_cases ej : j = z
          · rw [ej, fu_s, ptK2_a.2]
          · rw [fu_n ej, ptK2_o (by omega), lo _ (by omega)]
            exact (hS7.1 j j0 j1).1)
        rw [ehg]
        exact q
      · rw [if_neg hp]; exact hQ3 hz.1 hz.2 hd.1 hd.2 hp
    · rw [if_neg hd]; exact hQ2 hz.1 hz.2 hd
  · rw [if_neg hz]; exact hQ1 hz
theorem c124K {d : Nat} {k n B : Int} {K : Int → Int} {T : Tt} {σ : St} {Q : vmO → vmH → Prop} (ht : tie σ 2 K) (hv : kV K B) (hB : B < 800000000) (n0 : -2147483648 ≤ n) (n1 : n < 2147483648)
    (hQ1 : ¬ (1 ≤ n ∧ n ≤ 99) → Q (.inr 1) (E (thr T) σ))
    (hQ2 : 1 ≤ n → n ≤ 99 → ∀ τ, fM σ τ → tie τ 2 (ngI (kpK K) n.toNat) → Q (.inl (some (.int (i32 (ngS (kpK K) n.toNat))))) (E T τ)) : Ca (d + 9) k 124 [.ref 0, .int (i32 n)] (E T σ) Q := by
  have hW := tie_hp ht hv (by omega)
  have hL := tie_hpL ht hv
  have hm := wh_mul0 hv.1.1
  have h6 := hv.1.2.2.2.2.1
  have h5 := hv.1.2.2.2.1
  have h3 := hv.1.2.1
  have hsty := tie_sty ht hv
  have hS := hW.2.2.2.2.2.2.2.2.2.1
  refine c124 (N := nK K) hW.1 hW.2.1 hW.2.2.1 hsty hS hL.1 hL.2.1 hL.2.2 n0 n1 hQ1 ?_
  intro d0 d1 F S
  have ht2 := stR_tie ht hv
  have hkv := kpK_V hv
  have lo := kpK_lo h6.1 h6.2
  have e1 : kpK K 1 = K 1 := lo 1 (by omega)
  have e2 : kpK K 2 = K 2 := lo 2 (by omega)
  have e5 : kpK K 5 = K 5 := lo 5 (by omega)
  have e90 : kpK K 90 = K 90 := lo 90 (by omega)
  have e705 : σ 705 10 0 = K 90 := (tsc_W.mp ht.2.1).2.2.2.1
  have hE := ngI_E (K := kpK K) (N := nK K) (kd := σ 700 10) (tk := σ 701 10) (cd := σ 300 7) hkv.1 (by rw [e1, e2]; exact hW.2.2.1) (fun j j0 j1 => by
    rw [tsc_k ht.2.1 j j0 j1]; exact (lo _ (by omega)).symm) (fun j j0 j1 => by
    rw [tsc_t ht.2.1 j j0 j1]; exact (lo _ (by omega)).symm) (fun i hi => by
    rw [e5] at hi
    have := ht.1.2.2.2.2.2.2.2.2.2.2 i (by omega) (by omega)
    rw [show σ 300 7 i = cdK K i from this]
    unfold cdK
    rw [lo _ (by omega)]) n.toNat
  rw [e1, e2, e5, e90] at hE
  rw [e705, hE.2]
  have hW2 := tsc_W.mp ht2.2.1
  have hf : fS 10 (stR σ 2) (nsS (stR σ 2) 141 10 F S (ngT (K 1) (K 2) (σ 700 10) (σ 300 7) (K 5).toNat (nK K) (σ 701 10) (K 90) n.toNat) (K 90 + n) 0) := by
    unfold nsS
    exact fS_u (fS_u (fS_u (fS_u (fS_u fS_r (by omega)) (by omega)) (by omega)) (by omega)) (by omega)
  refine hQ2 d0 d1 _ (fM_t (stR_fM hsty) (fS_fM hf)) (tie_act hkv.1 ht2 hf ?_ (ngI_st n.toNat))
  rw [tsc_W]
  refine ⟨?_, ?_, ?_, ?_, ?_⟩
  · intro j j0 j1
    rw [nst (by omega) (by omega) (by omega) (by omega) (by omega), ns1, ngI_o n.toNat (by omega), hE.1 j j0 j1]
    refine ⟨(hW2.1 j j0 j1).1, ?_⟩
    unfold tkK
    rw [show (7 : Int) + 36 + j = 43 + j by omega]
  · intro w w0 w1
    rw [ngI_o n.toNat (j := 3) (by omega)] at w1
    have := lo 3 (by omega)
    rw [nst (by omega) (by omega) (by omega) (by omega) (by omega), nst (by omega) (by omega) (by omega) (by omega) (by omega), ngI_o n.toNat (j := 79 + w) (by omega), ngI_o n.toNat (j := 84 + w) (by omega)]
    exact hW2.2.1 w w0 w1
  · rw [ns4]
    have : ∃ m, n.toNat = m + 1 := ⟨n.toNat - 1, by omega⟩
    obtain ⟨m, hm2⟩ := this
    rw [hm2]
    exact ngK_9.1.symm
  · rw [ns5, ngI_90, e90]; dsimp only; omega
  · rw [nst (by omega) (by omega) (by omega) (by omega) (by omega), ngI_o n.toNat (j := 91) (by omega)]; exact hW2.2.2.2.2
theorem c125K {d : Nat} {k n B : Int} {K : Int → Int} {T : Tt} {σ : St} {Q : vmO → vmH → Prop} (ht : tie σ 2 K) (hv : kV K B) (n0 : -2147483648 ≤ n) (n1 : n < 2147483648)
    (hQ1 : ¬ (1 ≤ n ∧ n ≤ K 6) → Q (.inr 1) (E (thr T) σ))
    (hQ2 : 1 ≤ n → n ≤ K 6 → ∀ τ, fM σ τ → tie τ 2 (unK K n) → Q (.inl (some (.int (i32 (K 6 - n))))) (E T τ)) : Ca (d + 9) k 125 [.ref 0, .int (i32 n)] (E T σ) Q := by
  rw [c125 (tie_sty ht hv) n0 n1, ht.2.2.1]
  by_cases h : 1 ≤ n ∧ n ≤ K 6
  · rw [if_pos h]
    exact hQ2 h.1 h.2 _ stB_fM (stB_tie ht hv h.1 h.2)
  · rw [if_neg h]; exact hQ1 h
