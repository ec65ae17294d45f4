/-! ===== needed, dearest: class and reference ===== -/
theorem opA {σ : St} {K : Int → Int} {B : Int} (ht : tie σ 2 K) (hv : kV K B) : opB (σ 700 10) (nK K : Nat) = opB (kdK K 7) (K 1 * K 2) := by
  have hm := wh_mul0 hv.1.1
  rw [nK_c hv.1]
  exact opB_agr (by omega) (tsc_k ht.2.1)
theorem flI_wo {W H a x : Int} {o : Int → Bool} (hx : flI W H o a 36 x = false) : ∀ (n : Nat), n ≤ 36 → ∀ k, flI W H o a n k = true → flI W H (fun j => o j && !decide (j = x)) a n k = true
  | 0, _, k, h => by
    have h' : (decide (k = a) && o k) = true := h
    show (decide (k = a) && (o k && !decide (k = x))) = true
    rw [Bool.and_eq_true] at h'
    have nx : k ≠ x := fun e => by
      have u := flI_up h 36
      rw [Nat.zero_add, e, hx] at u
      exact Bool.noConfusion u
    rw [h'.1, h'.2, decide_eq_false nx]; rfl
  | n + 1, hn, k, h => by
    have ih := flI_wo hx n (by omega)
    have h' : ((flI W H o a n k || nbB W H (flI W H o a n) k) && o k) = true := h
    rw [Bool.and_eq_true, Bool.or_eq_true] at h'
    have nx : k ≠ x := fun e => by
      have u := flI_up h (36 - (n + 1))
      rw [show n + 1 + (36 - (n + 1)) = 36 by omega, e, hx] at u
      exact Bool.noConfusion u
    show ((flI W H (fun j => o j && !decide (j = x)) a n k || nbB W H (flI W H (fun j => o j && !decide (j = x)) a n) k) && (o k && !decide (k = x))) = true
    rw [h'.2, decide_eq_false nx]
    rcases h'.1 with h1 | h1
    · rw [ih k h1]; rfl
    · obtain ⟨kr, d, d0, d1, hd, hq⟩ := nbB_ex h1
      rw [(nbB_iff (q := flI W H (fun j => o j && !decide (j = x)) a n) kr.1 kr.2).mpr ⟨d.toNat, by omega, by rw [show ((d.toNat : Nat) : Int) = d by omega]; exact ⟨hd, ih _ hq⟩⟩, Bool.or_true]
      rfl
theorem fl_sh {K : Int → Int} {B w z x : Int} (hv : kV K B) (w' : wzI K w z) : flI (K 1) (K 2) (fun k => opB (kdK K 7) (K 1 * K 2) k && !decide (k = x)) (K (79 + w)) 36 z = true ↔ shD K w z x < far := by
  obtain ⟨h, w5, a, _⟩ := kV_w hv w'.1.1 w'.1.2
  have hm := wh_mul h
  refine flI_dD h (shC_cs (prK_cs (w := w) hv.1 hv.2.1)) (nK_c hv.1) (fun k hk => ?_) (fun k k0 k1 => ?_) a.1 a.2 w'.2.1 w'.2.2
  · rw [Bool.and_eq_true] at hk
    have := of_decide_eq_true hk.1; exact ⟨this.1, this.2.1⟩
  · have pw := prK_w (w := w) hv.2.1 k0 (show k < 36 by omega)
    show ((opB (kdK K 7) (K 1 * K 2) k && !decide (k = x)) = true) ↔ (if decide (k = x) = true then -1 else prK K w k) ≠ -1
    by_cases e : k = x
    · rw [decide_eq_true e, if_pos rfl]
      simp
    · rw [decide_eq_false e, if_neg Bool.false_ne_true, Bool.not_false, Bool.and_true]
      constructor
      · intro hk e2; exact (of_decide_eq_true hk).2.2 (pw.mp e2)
      · intro hk; exact decide_eq_true ⟨k0, k1, fun e2 => hk (pw.mpr e2)⟩
theorem k145 {d : Nat} {k w z B : Int} {K : Int → Int} {T : Tt} {σ : St} {Q : vmO → vmH → Prop} (ht : tie σ 2 K) (hv : kV K B) (hB : B < 900000000) (x0 : -2147483648 ≤ w) (x1 : w < 2147483648) (z0 : -2147483648 ≤ z) (z1 : z < 2147483648)
    (hQ1 : ¬ wzI K w z → Q (.inr 0) (E (thr T) σ))
    (hQ2 : wzI K w z → Q (.inl (some (.long (if dK K w z < far then bs (ndR K w z) else i64 0)))) (E T σ)) : Ca (d + 10) k 145 [.ref 0, .int (i32 w), .int (i32 z)] (E T σ) Q := by
  have hW := tie_hp ht hv (show B < 1000000000 by omega)
  have hN := nK_c hv.1
  refine c145 hW x0 x1 z0 z1 (fun a => hQ1 (fun b => a ((wzE ht hv).mpr b))) (fun a b c e => ?_)
  have w' := (wzE ht hv).mp ⟨⟨a, b⟩, c, e⟩
  obtain ⟨h2, h5, h6, h7⟩ := kV_w hv w'.1.1 w'.1.2
  have hm := wh_mul h2
  have q := hQ2 w'
  have fe : (flW σ (K 1) (K 2) (nK K) (σ 702 10 w) z = true) ↔ dK K w z < far := by
    unfold flW
    rw [opA ht hv, tkp ht w'.1.1 w'.1.2]
    exact dK_fl hv w'.1.1 w'.1.2 w'.2.1 w'.2.2
  by_cases hf : dK K w z < far
  · rw [if_pos hf] at q
    rw [if_pos (fe.mpr hf), opA ht hv, tkp ht w'.1.1 w'.1.2, bs_congr (q := ndR K w z) (fun k k0 _ => by
      have zf := (dK_fl hv w'.1.1 w'.1.2 w'.2.1 w'.2.2).mpr hf
      unfold ndB ndP ndR
      by_cases k1 : k < K 1 * K 2
      · rw [decide_eq_true (show 0 ≤ k ∧ k < (nK K : Nat) by omega), Bool.true_and, Bool.eq_iff_iff, decide_eq_true_iff, Bool.and_eq_true, Bool.and_eq_true, Bool.and_eq_true]
        have sh := fl_sh (x := k) hv w'
        constructor
        · rintro ⟨⟨⟨p1, p2⟩, p3⟩, p4⟩
          have n1 : k ≠ K (79 + w) := by
            intro e
            rw [decide_eq_true e] at p2
            exact Bool.noConfusion p2
          have n2 : k ≠ z := by
            intro e
            rw [decide_eq_true e] at p3
            exact Bool.noConfusion p3
          refine ⟨⟨k0, k1⟩, n1, n2, (of_decide_eq_true (flI_mo p1).2).2.2, fun s => ?_⟩
          rw [sh.mpr s] at p4
          exact Bool.noConfusion p4
        · rintro ⟨_, n1, n2, n3, n4⟩
          rw [decide_eq_false n1, decide_eq_false n2]
          have p4 : flI (K 1) (K 2) (fun j => opB (kdK K 7) (K 1 * K 2) j && !decide (j = k)) (K (79 + w)) 36 z = false := by
            cases e : flI (K 1) (K 2) (fun j => opB (kdK K 7) (K 1 * K 2) j && !decide (j = k)) (K (79 + w)) 36 z with
            | false => rfl
            | true => exact absurd (sh.mp e) n4
          refine ⟨⟨⟨?_, rfl⟩, rfl⟩, by rw [p4]; rfl⟩
          cases e : flI (K 1) (K 2) (opB (kdK K 7) (K 1 * K 2)) (K (79 + w)) 36 k with
          | true => rfl
          | false =>
            have := flI_wo e 36 (Nat.le_refl 36) z zf
            rw [p4] at this
            exact Bool.noConfusion this
      · rw [decide_eq_false (show ¬ (0 ≤ k ∧ k < (nK K : Nat)) by omega), decide_eq_false (p := (0 ≤ k ∧ k < K 1 * K 2) ∧ k ≠ K (79 + w) ∧ k ≠ z ∧ K (7 + k) ≠ 4 ∧ ¬ shD K w z k < far) (fun t => k1 t.1.2)]
        rfl)]
    exact q
  · rw [if_neg hf] at q
    rw [if_neg (fun t => hf (fe.mp t))]
    exact q
/-- along the first way -/
theorem pt_nx {W H t z : Int} {c : Int → Int} {N : Nat} (h : wh2 W H) (hc : csIn c (W * H)) (hN : (N : Int) = W * H) {m i : Nat} (hp : ptK W H c (dD W H c t N) z t m) (hi : i < m) : ∃ d : Int, 0 ≤ d ∧ d < 4 ∧ nbC W H (pt W H c (dD W H c t N) z i) d ≠ -1 ∧ pt W H c (dD W H c t N) z (i + 1) = nbC W H (pt W H c (dD W H c t N) z i) d ∧ dD W H c t N (pt W H c (dD W H c t N) z (i + 1)) + c (pt W H c (dD W H c t N) z i) = dD W H c t N (pt W H c (dD W H c t N) z i) := by
  have b := hp.1 i (by omega)
  have ne := hp.2.1 i hi
  obtain ⟨d, d0, d1, hn, _, e⟩ := dD_by h hc hN b.1 b.2.1 ne b.2.2
  obtain ⟨d', d0', d1', e1, hn', e2⟩ := onI_ok (W := W) (H := H) (z := pt W H c (dD W H c t N) z i) (c := c) (f := dD W H c t N) 4 (Nat.le_refl 4) ⟨d, by omega, d1, hn, by omega⟩
  have e3 : pt W H c (dD W H c t N) z (i + 1) = nbC W H (pt W H c (dD W H c t N) z i) d' := e1
  refine ⟨d', d0', d1', hn', e3, ?_⟩
  rw [e3]
  exact e2
theorem pt_le {W H t z : Int} {c c' D : Int → Int} {N : Nat} (h : wh2 W H) (hc : csIn c (W * H)) (hN : (N : Int) = W * H) {m : Nat} (hp : ptK W H c (dD W H c t N) z t m) (hD : cl1 W H c' D) (D0 : D z ≤ 0) (he : ∀ i : Nat, 1 ≤ i → i ≤ m → c' (pt W H c (dD W H c t N) z i) = c (pt W H c (dD W H c t N) z i) ∧ c (pt W H c (dD W H c t N) z i) ≠ -1) : ∀ i : Nat, i ≤ m → D (pt W H c (dD W H c t N) z i) ≤ dD W H c t N z - dD W H c t N (pt W H c (dD W H c t N) z i) - c z + c (pt W H c (dD W H c t N) z i)
  | 0, _ => by
    show D z ≤ dD W H c t N z - dD W H c t N z - c z + c z
    omega
  | i + 1, hi => by
    have ih := pt_le h hc hN hp hD D0 he i (by omega)
    have b := hp.1 i (by omega)
    obtain ⟨d, d0, d1, hn, e1, e2⟩ := pt_nx h hc hN hp (show i < m by omega)
    have q := he (i + 1) (by omega) hi
    have cl := hD (pt W H c (dD W H c t N) z i) d b.1 b.2.1 d0 d1 hn (by rw [← e1, q.1]; exact q.2)
    rw [← e1, q.1] at cl
    omega
theorem rev_le {W H t z : Int} {c : Int → Int} {N : Nat} (h : wh2 W H) (hc : csIn c (W * H)) (hN : (N : Int) = W * H) (t0 : 0 ≤ t) (t1 : t < W * H) (z0 : 0 ≤ z) (z1 : z < W * H) (hf : dD W H c t N z < far) : dD W H c z N t ≤ dD W H c t N z - c z + c t := by
  obtain ⟨m, m35, hp⟩ := pt_ex h hc hN z0 z1 hf
  have cz := dD_nw h hc hN z0 z1 hf
  have ct := dD_t h hc hN z0 z1 hf
  have a := pt_le h hc hN hp (dD_gr (t := z) h hc hN).2.1 (by rw [dD_0 h hc hN z0 z1 cz]; exact Int.le_refl 0) (fun i _ hi => ⟨rfl, dD_nw h hc hN (hp.1 i hi).1 (hp.1 i hi).2.1 (hp.1 i hi).2.2⟩) m (Nat.le_refl m)
  rw [hp.2.2, dD_0 h hc hN t0 t1 ct] at a
  omega
theorem rev_f {W H t z : Int} {c : Int → Int} {N : Nat} (h : wh2 W H) (hc : csIn c (W * H)) (hN : (N : Int) = W * H) (t0 : 0 ≤ t) (t1 : t < W * H) (z0 : 0 ≤ z) (z1 : z < W * H) (hf : dD W H c t N z < far) : dD W H c z N t < far := by
  have hfar : far = 1000000000 := rfl
  have hm := wh_mul h
  have a := rev_le h hc hN t0 t1 z0 z1 hf
  have b := dD_bnd (z := t) h hc hN z0 (show z < 36 by omega)
  have c1 := hc z z0 z1
  have c2 := hc t t0 t1
  omega
theorem dnI_cg {wo wo' : Int → Int} {tr tr' : Int → Bool} {st : Int} : ∀ n : Nat, (∀ k : Nat, k < n → tr k = true → tr' k = true ∧ wo k = wo' k) → (∀ k : Nat, k < n → tr' k = true → tr k = false → wo' k ≤ st) → dnI wo tr st n = dnI wo' tr' st n ∧ st ≤ (dnI wo tr st n).1
  | 0, _, _ => ⟨rfl, Int.le_refl _⟩
  | n + 1, h1, h2 => by
    obtain ⟨ih, le⟩ := dnI_cg n (fun k hk => h1 k (by omega)) (fun k hk => h2 k (by omega))
    simp only [dnI]
    rw [← ih]
    cases e : tr n with
    | true =>
      have a := h1 n (by omega) e
      rw [a.1, a.2]
      refine ⟨rfl, ?_⟩
      split
      · rename_i hc; have := hc.2; show st ≤ wo' n; omega
      · exact le
    | false =>
      rw [if_neg (fun t => Bool.noConfusion t.1)]
      refine ⟨?_, le⟩
      cases e' : tr' n with
      | true =>
        have a := h2 n (by omega) e' e
        rw [if_neg (fun t => by have := t.2; omega)]
      | false => rw [if_neg (fun t => Bool.noConfusion t.1)]
theorem rb_iff {r : Int → Int} {k : Int} : ∀ n : Nat, rb r n k = true ↔ ∃ i : Nat, i < n ∧ r i = k
  | 0 => ⟨fun h => Bool.noConfusion h, fun ⟨i, hi, _⟩ => absurd hi (Nat.not_lt_zero i)⟩
  | n + 1 => by
    have ih := rb_iff (r := r) (k := k) n
    simp only [rb]
    rw [Bool.or_eq_true, ih, decide_eq_true_iff]
    constructor
    · rintro (⟨i, hi, e⟩ | e)
      · exact ⟨i, by omega, e⟩
      · exact ⟨n, by omega, e.symm⟩
    · rintro ⟨i, hi, e⟩
      by_cases hin : i = n
      · rw [hin] at e; exact Or.inr e.symm
      · exact Or.inl ⟨i, by omega, e⟩

theorem k146 {d : Nat} {k w z B : Int} {K : Int → Int} {T : Tt} {σ : St} {Q : vmO → vmH → Prop} (ht : tie σ 2 K) (hv : kV K B) (hB : B < 900000000) (x0 : -2147483648 ≤ w) (x1 : w < 2147483648) (z0 : -2147483648 ≤ z) (z1 : z < 2147483648)
    (hQ1 : ¬ wzI K w z → Q (.inr 0) (E (thr T) σ))
    (hQ2 : wzI K w z → ∀ τ, sg σ τ → Q (.inl (some (.int (i32 (if dK K w z < far then (dnI (shD K w z) (okR K w z) (dK K w z) (nK K)).2 else -1))))) (E T τ)) : Ca (d + 10) k 146 [.ref 0, .int (i32 w), .int (i32 z)] (E T σ) Q := by
  have hW := tie_hp ht hv (show B < 1000000000 by omega)
  have hN := nK_c hv.1
  have hfar : far = 1000000000 := rfl
  refine c146 hW x0 x1 z0 z1 (fun a => hQ1 (fun b => a ((wzE ht hv).mpr b))) (fun a b c e hf τ hs => ?_) (fun a b c e hf m m35 hp τ hs => ?_)
  · have w' := (wzE ht hv).mp ⟨⟨a, b⟩, c, e⟩
    obtain ⟨h2, h5, h6, h7⟩ := kV_w hv w'.1.1 w'.1.2
    have hm := wh_mul h2
    have hcs := prc_cs (b := frB (σ 405 3 0) w) hW
    have hd := dA ht hv (show B < 1000000000 by omega) w'.1.1 w'.1.2 z c (by omega)
    rw [tkp ht w'.1.1 w'.1.2] at hf hd
    have q := hQ2 w' τ hs
    rw [if_neg (fun t => hf (rev_f h2 hcs hN h6.1 h6.2 w'.2.1 w'.2.2 (by rw [hd]; exact t)))] at q
    exact q
  · have w' := (wzE ht hv).mp ⟨⟨a, b⟩, c, e⟩
    obtain ⟨h2, h5, h6, h7⟩ := kV_w hv w'.1.1 w'.1.2
    have hm := wh_mul h2
    have hcs := prc_cs (b := frB (σ 405 3 0) w) hW
    have cE := prA (w := w) ht hv
    have hd := dA ht hv (show B < 1000000000 by omega) w'.1.1 w'.1.2 z c (by omega)
    have q := hQ2 w' τ hs
    rw [tkp ht w'.1.1 w'.1.2] at hf hd hp ⊢
    rw [hd]
    generalize prc σ 3 10 (frB (σ 405 3 0) w) = cc at hf hd hp hcs cE ⊢
    have zf : dK K w z < far := by rw [← hd]; exact rev_f h2 hcs hN w'.2.1 w'.2.2 h6.1 h6.2 hf
    rw [if_pos zf] at q
    have acw : cc (K (79 + w)) ≠ -1 := by
      rw [cE _ h6.1 h6.2]
      exact fun e => h7 ((prK_w hv.2.1 h6.1 (by omega)).mp e)
    have sE : ∀ x, 0 ≤ x → x < K 1 * K 2 → dD (K 1) (K 2) (fu cc x (-1)) (K (79 + w)) (nK K) z = shD K w z x := fun x xx0 xx1 => by
      unfold shD
      refine dD_agr h2 (fun j j0 j1 => ?_) (fu_cs hcs) hN h6.1 h6.2 z w'.2.1 (by omega)
      show fu cc x (-1) j = if decide (j = x) = true then -1 else prK K w j
      by_cases ej : j = x
      · rw [ej, fu_s, decide_eq_true rfl, if_pos rfl]
      · rw [fu_n ej, decide_eq_false ej, if_neg Bool.false_ne_true]; exact cE j j0 j1
    have de := (dnI_cg (wo := fun x => dD (K 1) (K 2) (fu cc x (-1)) (K (79 + w)) (nK K) z) (wo' := shD K w z) (tr := trB (pt (K 1) (K 2) cc (dD (K 1) (K 2) cc z (nK K)) (K (79 + w))) m (K (79 + w)) z) (tr' := okR K w z) (st := dK K w z) (nK K) (fun x hx htr => ?_) (fun x hx htr' htr => ?_)).1
    · rw [de]; exact q
    · refine ⟨?_, sE x (by omega) (by omega)⟩
      unfold trB at htr
      rw [Bool.and_eq_true, Bool.and_eq_true, rb_iff] at htr
      obtain ⟨⟨⟨i, hi, e1⟩, e2⟩, e3⟩ := htr
      have bi := hp.1 i (by omega)
      have e1' : pt (K 1) (K 2) cc (dD (K 1) (K 2) cc z (nK K)) (K (79 + w)) i = x := e1
      have nw := dD_nw h2 hcs hN bi.1 bi.2.1 bi.2.2
      rw [e1', cE x (by omega) (by omega)] at nw
      refine decide_eq_true ⟨fun t => ?_, fun t => ?_, fun t => nw ((prK_w hv.2.1 (by omega) (by omega)).mpr t)⟩
      · rw [decide_eq_true t] at e2; exact Bool.noConfusion e2
      · rw [decide_eq_true t] at e3; exact Bool.noConfusion e3
    · have ok := of_decide_eq_true htr'
      have off : ∀ i : Nat, i ≤ m → pt (K 1) (K 2) cc (dD (K 1) (K 2) cc z (nK K)) (K (79 + w)) i ≠ x := by
        intro i hi e1
        have : trB (pt (K 1) (K 2) cc (dD (K 1) (K 2) cc z (nK K)) (K (79 + w))) m (K (79 + w)) z x = true := by
          unfold trB
          rw [(rb_iff (r := fun i => pt (K 1) (K 2) cc (dD (K 1) (K 2) cc z (nK K)) (K (79 + w)) i.toNat) (k := (x : Int)) (m + 1)).mpr ⟨i, by omega, e1⟩, decide_eq_false ok.1, decide_eq_false ok.2.1]
          rfl
        rw [this] at htr
        exact Bool.noConfusion htr
      have cs' := fu_cs (x := (x : Int)) hcs
      have le := pt_le (c' := fu cc x (-1)) (D := dD (K 1) (K 2) (fu cc x (-1)) (K (79 + w)) (nK K)) h2 hcs hN hp (dD_gr h2 cs' hN).2.1 (by
        rw [dD_0 h2 cs' hN h6.1 h6.2 (by rw [fu_n (fun t => ok.1 t.symm)]; exact acw)]
        exact Int.le_refl 0) (fun i _ hi => ⟨fu_n (off i hi), dD_nw h2 hcs hN (hp.1 i hi).1 (hp.1 i hi).2.1 (hp.1 i hi).2.2⟩) m (Nat.le_refl m)
      have tw := dD_t h2 hcs hN h6.1 h6.2 hf
      rw [hp.2.2, dD_0 h2 hcs hN w'.2.1 w'.2.2 tw] at le
      have rv := rev_le h2 hcs hN h6.1 h6.2 w'.2.1 w'.2.2 (by rw [hd]; exact zf)
      rw [hd] at rv
      rw [← sE x (by omega) (by omega)]
      omega
