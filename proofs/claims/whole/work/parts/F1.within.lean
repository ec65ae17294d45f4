/-! ===== within, steps: class and reference ===== -/
theorem lfb_cgR {W H z pr v : Int} {g g' : Int → Int} (h : wh2 W H) (he : agr (W * H) g g') (z0 : 0 ≤ z) (z1 : z < W * H) : ∀ n : Nat, lfb W H g z pr v n = lfb W H g' z pr v n
  | 0 => rfl
  | n + 1 => by
    simp only [lfb]
    rw [lfb_cgR h he z0 z1 n]
    by_cases e : nbC W H z n = -1
    · simp only [e, if_true]
    · have hi := nb_in h z0 z1 e
      rw [he _ hi.1 hi.2.1]
theorem stp_cgR {W H z : Int} {c c' g g' : Int → Int} (h : wh2 W H) (hc : c z = c' z) (he : agr (W * H) g g') (z0 : 0 ≤ z) (z1 : z < W * H) : stp W H c g z = stp W H c' g' z := by
  unfold stp
  rw [hc, he z z0 z1, lfb_cgR h he z0 z1]
theorem stN_sf {K f c : Int → Int} {B w : Int} {N : Nat} (hv : kV K B) (hN : (N : Int) = K 1 * K 2) (h2 : wh2 (K 1) (K 2)) (hc : agr (K 1 * K 2) c (prK K w)) (hf : agr (K 1 * K 2) f (hrF K w)) : ∀ n : Nat, agr (K 1 * K 2) (stN (K 1) (K 2) N c f n) (sfI K w n)
  | 0 => hf
  | n + 1 => fun z z0 z1 => by
    have ih := stN_sf hv hN h2 hc hf n
    show cp (stp (K 1) (K 2) c (stN (K 1) (K 2) N c f n)) (stN (K 1) (K 2) N c f n) N z = stp (K 1) (K 2) (prK K w) (sfI K w n) z
    rw [cp_lt z0 (by omega)]
    exact stp_cgR h2 (hc z z0 z1) ih z0 z1
theorem sfI_le {K : Int → Int} {w z : Int} (n : Nat) : sfI K w (n + 1) z ≤ sfI K w n z := by
  show stp (K 1) (K 2) (prK K w) (sfI K w n) z ≤ _
  unfold stp
  split
  · exact Int.le_refl _
  · exact (lfb_up 4).1
theorem sfI_far {K : Int → Int} {w z : Int} : ∀ n : Nat, sfI K w n z ≤ far
  | 0 => by
    show (if z = K (79 + w) then 0 else far) ≤ far
    have hfar : far = 1000000000 := rfl
    split <;> omega
  | n + 1 => Int.le_trans (sfI_le n) (sfI_far n)
theorem dK_cl {K : Int → Int} {B w : Int} (hv : kV K B) (w0 : 0 ≤ w) (w1 : w < K 3) : cl1 (K 1) (K 2) (prK K w) (dK K w) := (dD_gr (kV_w hv w0 w1).1 (prK_cs hv.1 hv.2.1) (nK_c hv.1)).2.1
theorem dK_st {K : Int → Int} {B w : Int} (hv : kV K B) (w0 : 0 ≤ w) (w1 : w < K 3) : dK K w (K (79 + w)) = 0 := by
  obtain ⟨h2, h5, h6, h7⟩ := kV_w hv w0 w1
  have hm := wh_mul h2
  exact dD_0 h2 (prK_cs hv.1 hv.2.1) (nK_c hv.1) h6.1 h6.2 (fun e => h7 ((prK_w hv.2.1 h6.1 (by omega)).mp e))
theorem sfI_lo {K : Int → Int} {B w : Int} (hv : kV K B) (w0 : 0 ≤ w) (w1 : w < K 3) : ∀ (n : Nat) (z : Int), 0 ≤ z → z < K 1 * K 2 → dK K w z ≤ sfI K w n z
  | 0, z, z0, z1 => by
    show _ ≤ (if z = K (79 + w) then 0 else far)
    have hfar : far = 1000000000 := rfl
    by_cases e : z = K (79 + w)
    · rw [if_pos e, e, dK_st hv w0 w1]; exact Int.le_refl 0
    · rw [if_neg e]; have := dK_b hv w0 w1 z0 z1; omega
  | n + 1, z, z0, z1 => by
    have ih := sfI_lo hv w0 w1 n
    have h2 := (kV_w hv w0 w1).1
    show _ ≤ stp (K 1) (K 2) (prK K w) (sfI K w n) z
    unfold stp
    by_cases e : prK K w z = -1
    · rw [if_pos e]; exact ih z z0 z1
    · rw [if_neg e]
      rcases lfb_by (W := K 1) (H := K 2) (z := z) (pr := prK K w z) (v := sfI K w n z) (g := sfI K w n) 4 with e2 | ⟨d, hd, hn, e2⟩
      · rw [e2]; exact ih z z0 z1
      · rw [e2]
        have hi := nb_in h2 z0 z1 hn
        have sy := nb_sym (d := (d : Int)) h2 z0 z1 (by omega) (by omega) hn
        have cl := dK_cl hv w0 w1 (nbC (K 1) (K 2) z d) (3 - d) hi.1 hi.2.1 (by omega) (by omega) (by rw [sy]; omega) (by rw [sy]; exact e)
        rw [sy] at cl
        have := ih _ hi.1 hi.2.1
        omega
def sfS (K : Int → Int) (w : Int) (n : Nat) : Int → Bool := fun z => decide (sfI K w n z = dK K w z)
theorem sfS_up {K : Int → Int} {B w : Int} (hv : kV K B) (w0 : 0 ≤ w) (w1 : w < K 3) {n : Nat} {z : Int} (z0 : 0 ≤ z) (z1 : z < K 1 * K 2) (h : sfS K w n z = true) : sfS K w (n + 1) z = true := by
  have a := of_decide_eq_true h
  have b := sfI_le (K := K) (w := w) (z := z) n
  have c := sfI_lo hv w0 w1 (n + 1) z z0 z1
  exact decide_eq_true (by omega)
theorem sfS_new {K : Int → Int} {B w : Int} (hv : kV K B) (w0 : 0 ≤ w) (w1 : w < K 3) {n : Nat} : ∀ (v : Nat) (z : Int), 0 ≤ z → z < K 1 * K 2 → (dK K w z).toNat < v → sfS K w n z = false → ∃ y : Int, (0 ≤ y ∧ y < K 1 * K 2) ∧ sfS K w n y = false ∧ sfS K w (n + 1) y = true
  | 0, z, _, _, hvv, _ => by omega
  | v + 1, z, z0, z1, hvv, hz => by
    obtain ⟨h2, h5, h6, h7⟩ := kV_w hv w0 w1
    have hc := prK_cs (w := w) hv.1 hv.2.1
    have hfar : far = 1000000000 := rfl
    have ne := of_decide_eq_false hz
    have lo := sfI_lo hv w0 w1 n z z0 z1
    have hi' := sfI_far (K := K) (w := w) (z := z) n
    have bz := dK_b hv w0 w1 z0 z1
    have fz : dK K w z < far := by omega
    have zs : z ≠ K (79 + w) := fun e => by
      have a := dK_st hv w0 w1
      rw [← e] at a
      have b : ∀ n : Nat, sfI K w n z ≤ 0 := by
        intro n
        induction n with
        | zero => show (if z = K (79 + w) then 0 else far) ≤ 0; rw [if_pos e]; exact Int.le_refl 0
        | succ n ih => exact Int.le_trans (sfI_le n) ih
      have := b n
      omega
    obtain ⟨d, d0, d1, hn, cz, e⟩ := dD_by h2 hc (nK_c hv.1) z0 z1 zs fz
    have hi := nb_in h2 z0 z1 hn
    have hcz := hc z z0 z1
    have bn := dK_b hv w0 w1 hi.1 hi.2.1
    have e' : dK K w z = dK K w (nbC (K 1) (K 2) z d) + prK K w z := e
    cases es : sfS K w n (nbC (K 1) (K 2) z d) with
    | false => exact sfS_new hv w0 w1 v _ hi.1 hi.2.1 (by omega) es
    | true =>
      have a := of_decide_eq_true es
      refine ⟨z, ⟨z0, z1⟩, hz, decide_eq_true ?_⟩
      have lo2 := sfI_lo hv w0 w1 (n + 1) z z0 z1
      have up : sfI K w (n + 1) z ≤ sfI K w n (nbC (K 1) (K 2) z d) + prK K w z := by
        show stp (K 1) (K 2) (prK K w) (sfI K w n) z ≤ _
        unfold stp
        rw [if_neg cz]
        have := (lfb_up (W := K 1) (H := K 2) (z := z) (pr := prK K w z) (v := sfI K w n z) (g := sfI K w n) 4).2 d.toNat (by omega)
        rw [show ((d.toNat : Nat) : Int) = d by omega] at this
        exact this hn
      omega
theorem sfS_cnt {K : Int → Int} {B w : Int} (hv : kV K B) (w0 : 0 ≤ w) (w1 : w < K 3) : ∀ n : Nat, (∀ z, 0 ≤ z → z < K 1 * K 2 → sfS K w n z = true) ∨ (n : Int) + 1 ≤ cnt (sfS K w n) (nK K)
  | 0 => by
    obtain ⟨h2, h5, h6, h7⟩ := kV_w hv w0 w1
    have hN := nK_c hv.1
    right
    have a := cnt_lt (p := fun _ => false) (q := sfS K w 0) (j := (K (79 + w)).toNat) (by
      rw [show (((K (79 + w)).toNat : Nat) : Int) = K (79 + w) by omega]
      refine decide_eq_true ?_
      rw [dK_st hv w0 w1]
      show (if K (79 + w) = K (79 + w) then 0 else far) = 0
      rw [if_pos rfl]) rfl (nK K) (fun _ _ h => Bool.noConfusion h) (by omega)
    have b := (cnt_in (p := fun _ => false) (nK K)).1
    omega
  | n + 1 => by
    have hN := nK_c hv.1
    by_cases hall : ∀ z, 0 ≤ z → z < K 1 * K 2 → sfS K w n z = true
    · left
      exact fun z z0 z1 => sfS_up hv w0 w1 z0 z1 (hall z z0 z1)
    · right
      have ih := (sfS_cnt hv w0 w1 n).resolve_left hall
      have ex : ∃ z : Int, (0 ≤ z ∧ z < K 1 * K 2) ∧ sfS K w n z = false := by
        refine Classical.byContradiction fun hno => hall fun z z0 z1 => ?_
        cases e : sfS K w n z with
        | true => rfl
        | false => exact absurd ⟨z, ⟨z0, z1⟩, e⟩ hno
      obtain ⟨z, zr, hz⟩ := ex
      obtain ⟨y, yr, y1, y2⟩ := sfS_new hv w0 w1 ((dK K w z).toNat + 1) z zr.1 zr.2 (by omega) hz
      have a := cnt_lt (p := sfS K w n) (q := sfS K w (n + 1)) (j := y.toNat) (by rw [show ((y.toNat : Nat) : Int) = y by omega]; exact y2) (by rw [show ((y.toNat : Nat) : Int) = y by omega]; exact y1) (nK K) (fun k hk h => sfS_up hv w0 w1 (by omega) (by omega) h) (by omega)
      omega
theorem sfI_35 {K : Int → Int} {B w z : Int} (hv : kV K B) (w0 : 0 ≤ w) (w1 : w < K 3) (z0 : 0 ≤ z) (z1 : z < K 1 * K 2) : sfI K w 35 z = dK K w z := by
  have hN := nK_c hv.1
  have hm := wh_mul0 hv.1.1
  rcases sfS_cnt hv w0 w1 35 with a | a
  · exact of_decide_eq_true (a z z0 z1)
  · have b := cnt_in (p := sfS K w 35) (nK K)
    have c := cnt_all (q := sfS K w 35) (n := nK K) (by omega) z.toNat (by omega)
    rw [show ((z.toNat : Nat) : Int) = z by omega] at c
    exact of_decide_eq_true c
theorem sfI_36 {K : Int → Int} {B w z : Int} (hv : kV K B) (w0 : 0 ≤ w) (w1 : w < K 3) (z0 : 0 ≤ z) (z1 : z < K 1 * K 2) : sfI K w 36 z = sfI K w 35 z := by
  have a : sfI K w 36 z ≤ sfI K w 35 z := sfI_le (K := K) (w := w) (z := z) 35
  have b := sfI_lo hv w0 w1 36 z z0 z1
  have c := sfI_35 hv w0 w1 z0 z1
  omega
theorem fst1_cg {P P' : Nat → Bool} : ∀ m : Nat, (∀ i, i < m → P i = P' i) → fst1 P m = fst1 P' m
  | 0, _ => rfl
  | m + 1, h => by
    simp only [fst1]
    rw [fst1_cg m (fun i hi => h i (by omega)), h m (by omega)]
theorem cW_a {σ : St} {K : Int → Int} {B w : Int} (ht : tie σ 2 K) (hv : kV K B) : agr (K 1 * K 2) (cW σ (K 1) (K 2) w) (prK K w) := fun z z0 z1 => by
  unfold cW
  rw [cp_lt z0 z1]
  exact prA ht hv z z0 z1
theorem std_a {σ : St} {K : Int → Int} {B w : Int} (ht : tie σ 2 K) (hv : kV K B) (w0 : 0 ≤ w) (w1 : w < K 3) : agr (K 1 * K 2) (std (cW σ (K 1) (K 2) w) (σ 702 10 w) (σ 1001 144)) (hrF K w) := fun z z0 z1 => by
  obtain ⟨h2, h5, h6, h7⟩ := kV_w hv w0 w1
  have hm := wh_mul h2
  have ac : prK K w (K (79 + w)) ≠ -1 := fun e => h7 ((prK_w hv.2.1 h6.1 (by omega)).mp e)
  rw [std_at z0 (by omega), tkp ht w0 w1, cW_a ht hv _ h6.1 h6.2]
  unfold hrF
  by_cases e : z = K (79 + w)
  · rw [if_pos e, if_pos ⟨e, ac⟩]
  · rw [if_neg e, if_neg (fun t => e t.1)]
theorem k133 {d : Nat} {k w z s B : Int} {K : Int → Int} {T : Tt} {σ : St} {Q : vmO → vmH → Prop} (ht : tie σ 2 K) (hv : kV K B) (hB : B < 900000000) (x0 : -2147483648 ≤ w) (x1 : w < 2147483648) (z0 : -2147483648 ≤ z) (z1 : z < 2147483648) (y0 : -2147483648 ≤ s) (y1 : s < 2147483648)
    (hQ1 : ¬ wzI K w z → Q (.inr 0) (E (thr T) σ))
    (hQ2 : wzI K w z → ¬ (0 ≤ s ∧ s ≤ 99) → Q (.inr 1) (E (thr T) σ))
    (hQ3 : wzI K w z → (0 ≤ s ∧ s ≤ 99) → ∀ τ, sg σ τ → Q (.inl (some (.int (i32 (orN (sfI K w s.toNat z)))))) (E T τ)) : Ca (d + 10) k 133 [.ref 0, .int (i32 w), .int (i32 z), .int (i32 s)] (E T σ) Q := by
  have hN := nK_c hv.1
  have hW := tie_hp ht hv (show B < 1000000000 by omega)
  rw [show Ca (d + 10) k 133 [.ref 0, .int (i32 w), .int (i32 z), .int (i32 s)] (E T σ) Q = Ca (d + 10) 4 133 [.ref 0, .int (i32 w), .int (i32 z), .int (i32 s)] (E T σ) Q by rw [n133 _ _ _ _ _ _ _ _ _ ob_hp, n133 _ _ _ _ _ _ _ _ _ ob_hp]]
  refine c133 (by omega) hW x0 x1 z0 z1 y0 y1 (fun a => hQ1 (fun b => a ((wzE ht hv).mpr b))) (fun a b c e => hQ2 ((wzE ht hv).mp ⟨⟨a, b⟩, c, e⟩)) (fun a b c e s0 s1 K' F hF => ?_)
  have w' := (wzE ht hv).mp ⟨⟨a, b⟩, c, e⟩
  have h2 := (kV_w hv w'.1.1 w'.1.2).1
  rw [hF, stN_sf hv hN h2 (cW_a ht hv) (std_a ht hv w'.1.1 w'.1.2) s.toNat z w'.2.1 w'.2.2]
  exact hQ3 w' ⟨s0, s1⟩ _ sg_ws
theorem k134 {d : Nat} {k w z s B : Int} {K : Int → Int} {T : Tt} {σ : St} {Q : vmO → vmH → Prop} (ht : tie σ 2 K) (hv : kV K B) (hB : B < 900000000) (x0 : -2147483648 ≤ w) (x1 : w < 2147483648) (z0 : -2147483648 ≤ z) (z1 : z < 2147483648) (y0 : -2147483648 ≤ s) (y1 : s < 2147483648)
    (hQ1 : ¬ wzI K w z → Q (.inr 0) (E (thr T) σ))
    (hQ2 : wzI K w z → s < 0 → Q (.inr 1) (E (thr T) σ))
    (hQ3 : wzI K w z → 0 ≤ s → ∀ τ, sg σ τ → Q (.inl (some (.int (i32 (fst1 (fun i => decide (sfI K w i z < far ∧ sfI K w i z ≤ s)) 37))))) (E T τ)) : Ca (d + 10) k 134 [.ref 0, .int (i32 w), .int (i32 z), .int (i32 s)] (E T σ) Q := by
  have hN := nK_c hv.1
  have hW := tie_hp ht hv (show B < 1000000000 by omega)
  refine c134 hW x0 x1 z0 z1 y0 y1 (fun a => hQ1 (fun b => a ((wzE ht hv).mpr b))) (fun a b c e => hQ2 ((wzE ht hv).mp ⟨⟨a, b⟩, c, e⟩)) (fun a b c e s0 τ hs => ?_)
  have w' := (wzE ht hv).mp ⟨⟨a, b⟩, c, e⟩
  have h2 := (kV_w hv w'.1.1 w'.1.2).1
  have q := hQ3 w' s0 τ hs
  have e1 : fst1 (stP (K 1) (K 2) (nK K) (cW σ (K 1) (K 2) w) (std (cW σ (K 1) (K 2) w) (σ 702 10 w) (σ 1001 144)) z s) 36 = fst1 (fun i => decide (sfI K w i z < far ∧ sfI K w i z ≤ s)) 36 := fst1_cg 36 (fun i _ => by
    unfold stP
    rw [stN_sf hv hN h2 (cW_a ht hv) (std_a ht hv w'.1.1 w'.1.2) i z w'.2.1 w'.2.2])
  have e2 : fst1 (fun i => decide (sfI K w i z < far ∧ sfI K w i z ≤ s)) 37 = fst1 (fun i => decide (sfI K w i z < far ∧ sfI K w i z ≤ s)) 36 := by
    have st : ∀ m : Nat, fst1 (fun i => decide (sfI K w i z < far ∧ sfI K w i z ≤ s)) (m + 1) = if fst1 (fun i => decide (sfI K w i z < far ∧ sfI K w i z ≤ s)) m = -1 then (if decide (sfI K w m z < far ∧ sfI K w m z ≤ s) = true then (m : Int) else -1) else fst1 (fun i => decide (sfI K w i z < far ∧ sfI K w i z ≤ s)) m := fun m => rfl
    by_cases hn : fst1 (fun i => decide (sfI K w i z < far ∧ sfI K w i z ≤ s)) 36 = -1
    · rw [st 36, if_pos hn, sfI_36 hv w'.1.1 w'.1.2 w'.2.1 w'.2.2, hn]
      have s35 := st 35
      rw [hn] at s35
      by_cases h35 : fst1 (fun i => decide (sfI K w i z < far ∧ sfI K w i z ≤ s)) 35 = -1
      · rw [if_pos h35] at s35
        by_cases hp : decide (sfI K w 35 z < far ∧ sfI K w 35 z ≤ s) = true
        · rw [if_pos hp] at s35; omega
        · rw [if_neg hp]
      · rw [if_neg h35] at s35; exact absurd s35.symm h35
    · exact fst1_up hn 1
  rw [e1, ← e2]
  exact q
