/-! ===== cleared, clipFor: class and reference ===== -/
theorem gr1_cg {W H : Int} {c c' f f' y : Int → Int} (h : wh2 W H) (hc : agr (W * H) c c') (hf : agr (W * H) f f') (hg : gr1 W H c f y) : gr1 W H c' f' y := by
  have cl : ∀ g, cl1 W H c' g → cl1 W H c g := fun g hg k d k0 k1 d0 d1 hn hcn => by
    have hi := nb_in h k0 k1 hn
    rw [hc _ hi.1 hi.2.1] at hcn ⊢
    exact hg k d k0 k1 d0 d1 hn hcn
  have cl' : ∀ g, cl1 W H c g → cl1 W H c' g := fun g hg k d k0 k1 d0 d1 hn hcn => by
    have hi := nb_in h k0 k1 hn
    rw [← hc _ hi.1 hi.2.1] at hcn ⊢
    exact hg k d k0 k1 d0 d1 hn hcn
  refine ⟨fun k k0 k1 => ?_, cl' _ hg.2.1, fun g h1 h2 => hg.2.2 g (fun k k0 k1 => ?_) (cl g h2)⟩
  · rw [← hf k k0 k1]; exact hg.1 k k0 k1
  · rw [hf k k0 k1]; exact h1 k k0 k1
theorem clr_cgR {W H z : Int} {kd kd' f f' : Int → Int} (h : wh2 W H) (hk : hgB kd z = hgB kd' z) (he : agr (W * H) f f') (z0 : 0 ≤ z) (z1 : z < W * H) : clr W H kd f z = clr W H kd' f' z := by
  unfold clr
  rw [hk, he z z0 z1, lfb_cgR h he z0 z1]
theorem clN_ok {W H : Int} {N : Nat} {kd c f : Int → Int} (h : wh2 W H) (hN : (N : Int) = W * H) (hc : csIn c (W * H)) (hf : frIn f) (hy : cl1 W H c f) : ∀ n : Nat, (frIn (clN W H N kd c f n) ∧ cl1 W H c (clN W H N kd c f n)) ∧ gr1 W H c (clr W H kd (clN W H N kd c f n)) (clN W H N kd c f (n + 1)) := by
  have step : ∀ n : Nat, frIn (clN W H N kd c f n) → cl1 W H c (clN W H N kd c f n) → gr1 W H c (clr W H kd (clN W H N kd c f n)) (clN W H N kd c f (n + 1)) ∧ frIn (clN W H N kd c f (n + 1)) := by
    intro n a2 a3
    have hm := wh_mul h
    have fr : frIn (cp (clr W H kd (clN W H N kd c f n)) (clN W H N kd c f n) N) := cp_fr a2 (fun z z0 z1 => clr_in h a2 z0 (by omega))
    have sE : clN W H N kd c f (n + 1) = if ls (clr W H kd (clN W H N kd c f n)) (clN W H N kd c f n) N then (dj W H c N (cp (clr W H kd (clN W H N kd c f n)) (clN W H N kd c f n) N, (fun _ => false), (fun _ => 0), 0) N).1 else clN W H N kd c f n := rfl
    cases hl : ls (clr W H kd (clN W H N kd c f n)) (clN W H N kd c f n) N with
    | true =>
      rw [hl, if_pos rfl] at sE
      rw [sE]
      have g := dj_gr (o := fun _ => 0) h hc hN fr
      refine ⟨gr1_cg h (fun _ _ _ => rfl) (fun k k0 k1 => ?_) g, (dj_in (x := (cp (clr W H kd (clN W H N kd c f n)) (clN W H N kd c f n) N, (fun _ => false), (fun _ => 0), 0)) h hc hN fr rfl N).1⟩
      rw [cp_lt k0 (by omega)]
    | false =>
      rw [hl, if_neg Bool.false_ne_true] at sE
      rw [sE]
      refine ⟨⟨fun k k0 k1 => ?_, a3, fun g h1 _ k k0 k1 => ?_⟩, a2⟩
      · have := ls_no hl k.toNat (by omega)
        rw [show ((k.toNat : Nat) : Int) = k by omega] at this
        omega
      · exact Int.le_trans (h1 k k0 k1) clr_le
  intro n
  induction n with
  | zero => exact ⟨⟨hf, hy⟩, (step 0 hf hy).1⟩
  | succ n ih =>
    have s := step n ih.1.1 ih.1.2
    exact ⟨⟨s.2, s.1.2.1⟩, (step (n + 1) s.2 s.1.2.1).1⟩
theorem clN_K {σ : St} {K : Int → Int} {B w : Int} (ht : tie σ 2 K) (hv : kV K B) (hB : B < 1000000000) (w0 : 0 ≤ w) (w1 : w < K 3) : ∀ n : Nat, agr (K 1 * K 2) (clN (K 1) (K 2) (nK K) (σ 700 10) (prc σ 3 10 (frB (σ 405 3 0) w)) (dW σ (K 1) (K 2) (nK K) w) n) (cdK2 K w n) := by
  obtain ⟨h2, h5, h6, h7⟩ := kV_w hv w0 w1
  have hm := wh_mul h2
  have hN := nK_c hv.1
  have hW := tie_hp ht hv hB
  have hcs := prc_cs (b := frB (σ 405 3 0) w) hW
  have d0 : agr 36 (dW σ (K 1) (K 2) (nK K) w) (dK K w) := dA ht hv hB w0 w1
  have ok := fun n => clN_ok (kd := σ 700 10) (n := n) (f := dW σ (K 1) (K 2) (nK K) w) h2 hN hcs (dD_fr h2 hcs hN) (dD_gr h2 hcs hN).2.1
  intro n
  induction n with
  | zero => exact fun z z0 z1 => d0 z z0 (by omega)
  | succ n ih =>
    refine gr1_u (gr1_cg h2 (prA ht hv) (fun z z0 z1 => ?_) (ok n).2) (cdK2_ok hv w0 w1 n).2
    refine clr_cgR h2 ?_ ih z0 z1
    have e := tsc_k ht.2.1 z z0 (show z < 36 by omega)
    unfold hgB
    rw [e]
theorem k135 {d : Nat} {k w z s B : Int} {K : Int → Int} {T : Tt} {σ : St} {Q : vmO → vmH → Prop} (ht : tie σ 2 K) (hv : kV K B) (hB : B < 900000000) (x0 : -2147483648 ≤ w) (x1 : w < 2147483648) (z0 : -2147483648 ≤ z) (z1 : z < 2147483648) (y0 : -2147483648 ≤ s) (y1 : s < 2147483648)
    (hQ1 : ¬ wzI K w z → Q (.inr 0) (E (thr T) σ))
    (hQ2 : wzI K w z → ¬ (0 ≤ s ∧ s ≤ 36) → Q (.inr 1) (E (thr T) σ))
    (hQ3 : wzI K w z → (0 ≤ s ∧ s ≤ 36) → ∀ τ, sg σ τ → Q (.inl (some (.int (i32 (orN (cdK2 K w s.toNat z)))))) (E T τ)) : Ca (d + 10) k 135 [.ref 0, .int (i32 w), .int (i32 z), .int (i32 s)] (E T σ) Q := by
  have hW := tie_hp ht hv (show B < 1000000000 by omega)
  refine c135 hW x0 x1 z0 z1 y0 y1 (fun a => hQ1 (fun b => a ((wzE ht hv).mpr b))) (fun a b c e => hQ2 ((wzE ht hv).mp ⟨⟨a, b⟩, c, e⟩)) (fun a b c e s0 s1 τ hs => ?_)
  have w' := (wzE ht hv).mp ⟨⟨a, b⟩, c, e⟩
  rw [clN_K ht hv (by omega) w'.1.1 w'.1.2 s.toNat z w'.2.1 w'.2.2]
  exact hQ3 w' ⟨s0, s1⟩ τ hs
theorem k136 {d : Nat} {k w z s wh B : Int} {K : Int → Int} {T : Tt} {σ : St} {Q : vmO → vmH → Prop} (ht : tie σ 2 K) (hv : kV K B) (hB : B < 900000000) (x0 : -2147483648 ≤ w) (x1 : w < 2147483648) (z0 : -2147483648 ≤ z) (z1 : z < 2147483648) (y0 : -2147483648 ≤ s) (y1 : s < 2147483648) (q0 : -2147483648 ≤ wh) (q1 : wh < 2147483648)
    (hQ1 : ¬ wzI K w z → Q (.inr 0) (E (thr T) σ))
    (hQ2 : wzI K w z → ¬ (0 ≤ s ∧ 0 ≤ wh ∧ wh ≤ 1) → Q (.inr 1) (E (thr T) σ))
    (hQ3 : wzI K w z → (0 ≤ s ∧ 0 ≤ wh ∧ wh ≤ 1) → ∀ τ, sg σ τ → Q (.inl (some (.int (i32 (cfK K w z s wh))))) (E T τ)) : Ca (d + 10) k 136 [.ref 0, .int (i32 w), .int (i32 z), .int (i32 s), .int (i32 wh)] (E T σ) Q := by
  have hW := tie_hp ht hv (show B < 1000000000 by omega)
  refine c136 hW x0 x1 z0 z1 y0 y1 q0 q1 (fun a => hQ1 (fun b => a ((wzE ht hv).mpr b))) (fun a b c e => hQ2 ((wzE ht hv).mp ⟨⟨a, b⟩, c, e⟩)) (fun a b c e s0 wh0 wh1 τ hs => ?_)
  have w' := (wzE ht hv).mp ⟨⟨a, b⟩, c, e⟩
  have q := hQ3 w' ⟨s0, wh0, wh1⟩ τ hs
  have cE := fun n => clN_K ht hv (show B < 1000000000 by omega) w'.1.1 w'.1.2 n z w'.2.1 w'.2.2
  have pE : clP (K 1) (K 2) (nK K) (σ 700 10) (prc σ 3 10 (frB (σ 405 3 0) w)) (dW σ (K 1) (K 2) (nK K) w) z s = fun n => decide (cdK2 K w n z < far ∧ cdK2 K w n z ≤ s) := by
    funext n
    unfold clP
    rw [cE n]
  unfold cfA
  rw [pE, cE]
  exact q
