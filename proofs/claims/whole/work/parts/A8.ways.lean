/-! ===== HedgePark: ways ===== -/
def djO (W H : Int) (x : Dj) : Prop := 0 ≤ x.2.2.2 ∧ (∀ i : Nat, (i : Int) < x.2.2.2 → (0 ≤ x.2.2.1 i ∧ x.2.2.1 i < W * H) ∧ x.2.1 (x.2.2.1 i) = true) ∧ (∀ k, 0 ≤ k → k < W * H → x.2.1 k = true → ∃ i : Nat, (i : Int) < x.2.2.2 ∧ x.2.2.1 i = k) ∧ (∀ i j : Nat, i < j → (j : Int) < x.2.2.2 → x.1 (x.2.2.1 i) ≤ x.1 (x.2.2.1 j) ∧ x.2.2.1 i ≠ x.2.2.1 j) ∧ ∀ k, 0 ≤ k → k < W * H → x.2.1 k = true → x.1 k < far
theorem djO_s {W H : Int} {c f : Int → Int} {N : Nat} {x : Dj} (h : wh2 W H) (hc : csIn c (W * H)) (hN : (N : Int) = W * H) (hx : frIn x.1) (hI : djI W H c f N x) (hO : djO W H x) (hz : (nr x.1 x.2.1 N).2 ≠ -1) : djO W H (djS W H c N x) := by
  have hm := wh_mul h
  obtain ⟨ok1, ok2, ok3, ok4, ok5, ok6, ok7⟩ := nr_ok hx (q := x.2.1) N (by omega)
  obtain ⟨o1, o2, o3⟩ := ok6 hz
  obtain ⟨f1, q, od, r⟩ := x
  obtain ⟨I1, I2, I3, I4, I5⟩ := hI
  obtain ⟨O0, O1, O2, O3, O4⟩ := hO
  dsimp only at *
  generalize hk : (nr f1 q N).2 = k at *
  have hst : djS W H c N (f1, q, od, r) = (rlx W H c k f1 4, (fun j => q j || decide (j = k)), fu od r k, r + 1) := by
    unfold djS
    dsimp only
    rw [hk, if_neg hz]
  rw [hst]
  have kk0 : 0 ≤ k := by omega
  have kk1 : k < W * H := by omega
  have ra := fun j => rlx_all (c := c) (f := f1) h kk0 kk1 j 4
  have se : ∀ j, 0 ≤ j → j < W * H → (q j = true ∨ j = k) → rlx W H c k f1 4 j = f1 j := fun j j0 j1 hj => by
    rcases hj with hj | hj
    · have a := I1 j k j0 j1 kk0 kk1 hj o3
      have b := (ra j).1
      have d := (ra j).2.1 (f1 j) (Int.le_refl _) (fun dd hd e ej ec => by
        have := hc j j0 j1
        omega)
      omega
    · rw [hj]
      exact rlx_k h kk0 kk1 4
  refine ⟨?_, ?_, ?_, ?_, ?_⟩
  · show 0 ≤ r + 1; omega
  · intro i hi
    dsimp only at hi ⊢
    by_cases e : (i : Int) = r
    · rw [e, fu_s, decide_eq_true (rfl : k = k), Bool.or_true]
      exact ⟨⟨kk0, kk1⟩, rfl⟩
    · rw [fu_n e]
      have := O1 i (by omega)
      exact ⟨this.1, by rw [this.2]; rfl⟩
  · intro j j0 j1 hj
    dsimp only at hj ⊢
    simp only [Bool.or_eq_true, decide_eq_true_eq] at hj
    by_cases e : j = k
    · exact ⟨r.toNat, by omega, by rw [show ((r.toNat : Nat) : Int) = r by omega, fu_s, e]⟩
    · rcases hj with hj | hj
      · obtain ⟨i, i1, i2⟩ := O2 j j0 j1 hj
        exact ⟨i, by omega, by rw [fu_n (by omega)]; exact i2⟩
      · exact absurd hj e
  · intro i j hij hj
    dsimp only at hj ⊢
    rw [fu_n (show (i : Int) ≠ r by omega)]
    have qi := O1 i (by omega)
    by_cases e : (j : Int) = r
    · rw [e, fu_s, se _ qi.1.1 qi.1.2 (Or.inl qi.2), se k kk0 kk1 (Or.inr rfl)]
      refine ⟨I1 _ k qi.1.1 qi.1.2 kk0 kk1 qi.2 o3, fun e2 => ?_⟩
      rw [e2, o3] at qi
      exact absurd qi.2 (by decide)
    · rw [fu_n e]
      have qj := O1 j (by omega)
      rw [se _ qi.1.1 qi.1.2 (Or.inl qi.2), se _ qj.1.1 qj.1.2 (Or.inl qj.2)]
      exact O3 i j hij (by omega)
  · intro j j0 j1 hj
    dsimp only at hj ⊢
    simp only [Bool.or_eq_true, decide_eq_true_eq] at hj
    rw [se j j0 j1 hj]
    rcases hj with hj | hj
    · exact O4 j j0 j1 hj
    · rw [hj]; omega
theorem dj_ord {W H : Int} {c f o : Int → Int} {N : Nat} (h : wh2 W H) (hc : csIn c (W * H)) (hN : (N : Int) = W * H) (hf : frIn f) : djO W H (dj W H c N (f, (fun _ => false), o, 0) N) ∧ ∀ k, 0 ≤ k → k < W * H → (dj W H c N (f, (fun _ => false), o, 0) N).1 k < far → (dj W H c N (f, (fun _ => false), o, 0) N).2.1 k = true := by
  have hm := wh_mul h
  have hin := fun n => (dj_in (x := (f, (fun _ => false), o, 0)) h hc hN hf rfl n).1
  have inv : ∀ n : Nat, djO W H (dj W H c N (f, (fun _ => false), o, 0) n) ∧ djI W H c f N (dj W H c N (f, (fun _ => false), o, 0) n) ∧ ((dj W H c N (f, (fun _ => false), o, 0) n).2.2.2 = n ∨ (nr (dj W H c N (f, (fun _ => false), o, 0) n).1 (dj W H c N (f, (fun _ => false), o, 0) n).2.1 N).2 = -1) := by
    intro n
    induction n with
    | zero =>
      refine ⟨⟨Int.le_refl _, ?_, ?_, ?_, ?_⟩, ⟨?_, ?_, ?_, ?_, ?_⟩, Or.inl rfl⟩
      · intro i hi
        have : (i : Int) < 0 := hi
        omega
      · intro k _ _ hk
        exact absurd (show false = true from hk) (by decide)
      · intro i j _ hj
        have : (j : Int) < 0 := hj
        omega
      · intro k _ _ hk
        exact absurd (show false = true from hk) (by decide)
      · intro k j _ _ _ _ hk _
        exact absurd (show false = true from hk) (by decide)
      · intro k d _ _ _ _ hk _ _
        exact absurd (show false = true from hk) (by decide)
      · intro k _ _; exact Int.le_refl _
      · intro g hg _ k k0 k1; exact hg k k0 k1
      · have : ∀ m : Nat, cnt (fun _ => false) m = 0 := by
          intro m
          induction m with
          | zero => rfl
          | succ m ih => simp only [cnt]; rw [ih]; rfl
        exact this N
    | succ n ih =>
      show djO W H (djS W H c N (dj W H c N (f, (fun _ => false), o, 0) n)) ∧ djI W H c f N (djS W H c N (dj W H c N (f, (fun _ => false), o, 0) n)) ∧ ((djS W H c N (dj W H c N (f, (fun _ => false), o, 0) n)).2.2.2 = ((n + 1 : Nat) : Int) ∨ (nr (djS W H c N (dj W H c N (f, (fun _ => false), o, 0) n)).1 (djS W H c N (dj W H c N (f, (fun _ => false), o, 0) n)).2.1 N).2 = -1)
      have hi := hin n
      generalize dj W H c N (f, (fun _ => false), o, 0) n = x at ih hi ⊢
      by_cases hz : (nr x.1 x.2.1 N).2 = -1
      · have e : djS W H c N x = x := by unfold djS; rw [if_pos hz]
        rw [e]
        exact ⟨ih.1, ih.2.1, Or.inr hz⟩
      · have s := djI_s h hc hN hi ih.2.1 hz
        refine ⟨djO_s h hc hN hi ih.2.1 ih.1 hz, s.1, Or.inl ?_⟩
        rcases ih.2.2 with a | a
        · rw [s.2, a]; omega
        · exact absurd a hz
  obtain ⟨hO, ⟨I1, I2, I3, I4, I5⟩, hend⟩ := inv N
  refine ⟨hO, ?_⟩
  have hi := hin N
  generalize dj W H c N (f, (fun _ => false), o, 0) N = x at I5 hend hi ⊢
  intro k k0 k1 hk
  rcases hend with e | e
  · have := cnt_all (I5.trans e) k.toNat (by omega)
    rw [show ((k.toNat : Nat) : Int) = k by omega] at this
    exact this
  · cases hq : x.2.1 k with
    | true => rfl
    | false =>
      exfalso
      obtain ⟨ok1, ok2, ok3, ok4, ok5, ok6, ok7⟩ := nr_ok hi (q := x.2.1) N (by omega)
      have a := ok7 k.toNat (by omega) (by omega) (by rw [show ((k.toNat : Nat) : Int) = k by omega]; exact hq)
      rw [ok5 e, show ((k.toNat : Nat) : Int) = k by omega] at a
      omega
/-- how many come to a cell from beside, at least cost -/
def mS (W H : Int) (c f : Int → Int) (M : Int → Int64) (z : Int) : Nat → Int64
  | 0 => i64 0
  | d + 1 => if nbC W H z d = -1 ∨ ¬ f (nbC W H z d) + c z = f z then mS W H c f M z d else mS W H c f M z d + M (nbC W H z d)
theorem mS_cg {W H z : Int} {c c' f f' : Int → Int} {M M' : Int → Int64} (h : wh2 W H) (z0 : 0 ≤ z) (z1 : z < W * H) (hc : c z = c' z) (hf : ∀ k, 0 ≤ k → k < W * H → f k = f' k) (hM : ∀ d : Nat, d < 4 → nbC W H z d ≠ -1 → f (nbC W H z d) + c z = f z → M (nbC W H z d) = M' (nbC W H z d)) : ∀ n : Nat, n ≤ 4 → mS W H c f M z n = mS W H c' f' M' z n
  | 0, _ => rfl
  | d + 1, hd => by
    have ih := mS_cg h z0 z1 hc hf hM d (by omega)
    simp only [mS]
    by_cases e : nbC W H z d = -1
    · rw [if_pos (Or.inl e), if_pos (Or.inl e)]; exact ih
    · have hi := nb_in h z0 z1 e
      by_cases e2 : f (nbC W H z d) + c z = f z
      · have e3 := e2
        rw [hf _ hi.1 hi.2.1, hc, hf z z0 z1] at e3
        rw [if_neg (fun t => t.elim e (fun t => t e2)), if_neg (fun t => t.elim e (fun t => t e3)), ih, hM d (by omega) e e2]
      · have e3 := e2
        rw [hf _ hi.1 hi.2.1, hc, hf z z0 z1] at e3
        rw [if_pos (Or.inr e2), if_pos (Or.inr e3)]; exact ih
theorem mnx_o {W H z k : Int} {c f g : Int → Int} (hk : k ≠ z) : ∀ n : Nat, mnx W H c f z g n k = g k
  | 0 => rfl
  | n + 1 => by
    simp only [mnx]
    unfold mn1
    split
    · exact mnx_o hk n
    · rw [fu_n hk]; exact mnx_o hk n
theorem mnx_z {W H z : Int} {c f g : Int → Int} (h : wh2 W H) (z0 : 0 ≤ z) (z1 : z < W * H) : ∀ n : Nat, i64 (mnx W H c f z g n z) = i64 (g z) + mS W H c f (fun k => i64 (g k)) z n
  | 0 => by simp only [mnx, mS]; exact (Int64.add_zero _).symm
  | n + 1 => by
    have ih := mnx_z (c := c) (f := f) (g := g) h z0 z1 n
    simp only [mnx, mS]
    unfold mn1
    by_cases e : nbC W H z n = -1 ∨ ¬ f (nbC W H z n) + c z = f z
    · rw [if_pos e, if_pos e]; exact ih
    · rw [if_neg e, if_neg e, fu_s, i64_toInt, ih]
      have hi := nb_in h z0 z1 (fun t => e (Or.inl t))
      rw [mnx_o hi.2.2, Int64.add_assoc]
/-- the counts: none where one can't come, one where one is, else from beside -/
def wyC (W H : Int) (c y : Int → Int) (a : Int) (M : Int → Int64) : Prop := (∀ z, 0 ≤ z → z < W * H → ¬ y z < far → M z = i64 0) ∧ ∀ z, 0 ≤ z → z < W * H → y z < far → M z = (if z = a then i64 1 else i64 0) + mS W H c y M z 4
theorem wyC_u {W H a : Int} {c y : Int → Int} {M M' : Int → Int64} (h : wh2 W H) (hy : ∀ k, 0 ≤ k → k < W * H → 0 ≤ y k) (hc : ∀ k, 0 ≤ k → k < W * H → k ≠ a → y k < far → 1 ≤ c k) (ha : 1 ≤ c a) (hya : y a = 0 ∨ ¬ y a < far) (h1 : wyC W H c y a M) (h2 : wyC W H c y a M') : ∀ (n : Nat) (z : Int), 0 ≤ z → z < W * H → (y z).toNat < n → M z = M' z
  | 0, z, _, _, hn => by omega
  | n + 1, z, z0, z1, hn => by
    by_cases hf : y z < far
    · rw [h1.2 z z0 z1 hf, h2.2 z z0 z1 hf]
      congr 1
      refine mS_cg h z0 z1 rfl (fun _ _ _ => rfl) (fun d hd e e2 => ?_) 4 (Nat.le_refl 4)
      have hi := nb_in h z0 z1 e
      have hyn := hy _ hi.1 hi.2.1
      refine wyC_u h hy hc ha hya h1 h2 n _ hi.1 hi.2.1 ?_
      by_cases ez : z = a
      · rcases hya with e3 | e3
        · rw [ez] at e2 hyn ⊢
          rw [ez] at hn
          omega
        · exact absurd (ez ▸ hf) e3
      · have := hc z z0 z1 ez hf
        omega
    · rw [h1.1 z z0 z1 hf, h2.1 z z0 z1 hf]
theorem mny_ok {W H : Int} {c f o g : Int → Int} (h : wh2 W H) (hc : csIn c (W * H)) {r : Nat} (hg : ∀ k, 0 ≤ k → k < W * H → i64 (g k) = i64 0) (ho : ∀ i : Nat, i < r → 0 ≤ o i ∧ o i < W * H) (hs : ∀ i j : Nat, i < j → j < r → f (o i) ≤ f (o j) ∧ o i ≠ o j) (hp : ∀ i : Nat, i < r → c (o i) ≠ -1) : ∀ n : Nat, n ≤ r → (∀ i : Nat, i < n → i64 (mny W H c f o g n (o i)) = (if i = 0 then i64 1 else i64 0) + mS W H c f (fun k => i64 (mny W H c f o g n k)) (o i) 4) ∧ ∀ k, 0 ≤ k → k < W * H → (∀ i : Nat, i < n → o i ≠ k) → i64 (mny W H c f o g n k) = i64 0
  | 0, _ => ⟨fun i hi => by omega, fun k k0 k1 _ => hg k k0 k1⟩
  | n + 1, hn => by
    obtain ⟨ih1, ih2⟩ := mny_ok h hc hg ho hs hp n (by omega)
    have hon := ho n (by omega)
    have hcn := hc _ hon.1 hon.2
    have hpn := hp n (by omega)
    have eo : ∀ k, k ≠ o n → mny W H c f o g (n + 1) k = mny W H c f o g n k := fun k hk => by
      simp only [mny]
      rw [mnx_o hk, fu_n hk]
    have ez : i64 (mny W H c f o g (n + 1) (o n)) = (if n = 0 then i64 1 else i64 0) + mS W H c f (fun k => i64 (mny W H c f o g (n + 1) k)) (o n) 4 := by
      have := mnx_z (c := c) (f := f) (g := fu (mny W H c f o g n) (o n) (i64 (if n = 0 then 1 else 0)).toInt) h hon.1 hon.2 4
      simp only [mny]
      rw [this, fu_s, i64_toInt]
      have e1 : i64 (if n = 0 then 1 else 0) = if n = 0 then i64 1 else i64 0 := by split <;> rfl
      rw [e1]
      congr 1
      refine mS_cg h hon.1 hon.2 rfl (fun _ _ _ => rfl) (fun d hd e e2 => ?_) 4 (Nat.le_refl 4)
      have hi := nb_in h hon.1 hon.2 e
      rw [fu_n hi.2.2]
      rw [mnx_o hi.2.2, fu_n hi.2.2]
    constructor
    · intro i hi
      by_cases e : i = n
      · rw [e]; exact ez
      · have hoi := ho i (by omega)
        have hsi := hs i n (by omega) (by omega)
        rw [eo _ hsi.2, ih1 i (by omega)]
        congr 1
        refine mS_cg h hoi.1 hoi.2 rfl (fun _ _ _ => rfl) (fun d hd e1 e2 => ?_) 4 (Nat.le_refl 4)
        have hci := hc _ hoi.1 hoi.2
        have hpi := hp i (by omega)
        rw [eo]
        intro e3
        rw [e3] at e2
        omega
    · intro k k0 k1 hk
      rw [eo k (fun e => hk n (by omega) e.symm)]
      exact ih2 k k0 k1 (fun i hi => hk i (by omega))
theorem c132 {d N : Nat} {k w z W H : Int} {T : Tt} {σ : St} {Q : vmO → vmH → Prop} (hW : hpW σ W H N) (hnw : ∀ w, 0 ≤ w → w < σ 404 3 0 → prc σ 3 10 (frB (σ 405 3 0) w) (σ 702 10 w) ≠ -1) (x0 : -2147483648 ≤ w) (x1 : w < 2147483648) (z0 : -2147483648 ≤ z) (z1 : z < 2147483648)
    (hQ1 : ¬ ((0 ≤ w ∧ w < σ 404 3 0) ∧ (0 ≤ z ∧ z < N)) → Q (.inr 0) (E (thr T) σ))
    (hQ2 : 0 ≤ w → w < σ 404 3 0 → 0 ≤ z → z < N → ∀ M, wyC W H (prc σ 3 10 (frB (σ 405 3 0) w)) (dW σ W H N w) (σ 702 10 w) M → ∀ τ, sg σ τ → Q (.inl (some (.long (M z)))) (E T τ)) : Ca (d + 10) k 132 [.ref 0, .int (i32 w), .int (i32 z)] (E T σ) Q := by
  have h0 := ob_hp; have h2 := ob_st; have h3 := ob_p3; have hn := ob_n10; have hwy := ob_wy
  have hm := wh_mul0 hW.2.1
  have hNw := hW.2.2.1
  have hfar : far = 1000000000 := rfl
  have hN : σ 401 3 0 * σ 402 3 0 = (N : Int) := by rw [hW.1.1, hW.1.2.1, hW.2.2.1]
  rw [n132 _ _ _ _ _ _ _ _ h0]
  simp (disch := (first | assumption | omega | exact Nat.le_of_ble_eq_true rfl | rfl)) only [w132_0, w132_1, w132_2, w132_3, w132_6, w132_7, w132_10, w132_11, w132_14, w132_17, w132_18, w132_21, w132_24, w132_25, w132_28, w132_29, w132_32, w132_33, w132_36, w132_39, w132_40, w132_43, Ko_n, Ko_v, vX_i, vX_r, vX_l, vX_j, reduceIte]
  rw [c165 hN (by omega) (by omega) hW.2.2.2.2.2.1 hW.2.2.2.2.2.2.1 x0 x1 z0 z1]
  by_cases hv : (0 ≤ w ∧ w < σ 404 3 0) ∧ (0 ≤ z ∧ z < (N : Int))
  · rw [if_pos hv]
    obtain ⟨⟨w0, w1⟩, k0, k1⟩ := hv
    obtain ⟨h, w5, a0, a1⟩ := hpW_w hW w0 w1
    obtain ⟨hP, hS⟩ := hpW_k hW w0 w1
    have hq := hQ2 w0 w1 k0 k1
    have hnw := hnw w w0 w1
    have hcs : csIn (cp (prc σ 3 10 (frB (σ 405 3 0) w)) (σ 1000 144) (W * H)) (W * H) := cst_cs (e := σ 1000 144) (wi := wiB (σ 403 3 0) (σ 705 10 0)) (fr := frB (σ 405 3 0) w) (N := W * H) (by omega) hS.1 hS.2.1
    have hag : agr (W * H) (cp (prc σ 3 10 (frB (σ 405 3 0) w)) (σ 1000 144) (W * H)) (prc σ 3 10 (frB (σ 405 3 0) w)) := fun j j0 j1 => cp_lt j0 j1
    have hsp := spr_dD (g := σ 1001 144) (o := σ 1005 144) h hag hcs hNw a0 a1
    have hfr := dj_frIn (c := cp (prc σ 3 10 (frB (σ 405 3 0) w)) (σ 1000 144) (W * H)) (g := σ 1001 144) (o := σ 1005 144) (z := σ 702 10 w) h hcs hNw
    have hor := dj_ord (o := σ 1005 144) h hcs hNw (std_in (c := cp (prc σ 3 10 (frB (σ 405 3 0) w)) (σ 1000 144) (W * H)) (g := σ 1001 144) (z := σ 702 10 w))
    have hbr := (dj_in (x := (std (cp (prc σ 3 10 (frB (σ 405 3 0) w)) (σ 1000 144) (W * H)) (σ 702 10 w) (σ 1001 144), (fun _ => false), σ 1005 144, 0)) h hcs hNw std_in rfl N).2
    have hd0 := dD_0 h (prc_cs (b := frB (σ 405 3 0) w) hW) hNw a0 a1 hnw
    have hby := fun x x0 x1 e e2 => dD_by (t := σ 702 10 w) (z := x) h (prc_cs (b := frB (σ 405 3 0) w) hW) hNw x0 x1 e e2
    have hdf := dD_fr (t := σ 702 10 w) h (prc_cs (b := frB (σ 405 3 0) w) hW) hNw
    have hcc := prc_cs (b := frB (σ 405 3 0) w) hW
    unfold dW at hq
    simp (disch := (first | assumption | omega | exact Nat.le_of_ble_eq_true rfl | rfl)) only [w132_0, w132_1, w132_2, w132_3, w132_6, w132_7, w132_10, w132_11, w132_14, w132_17, w132_18, w132_21, w132_24, w132_25, w132_28, w132_29, w132_32, w132_33, w132_36, w132_39, w132_40, w132_43, Ko_n, Ko_v, vX_i, vX_r, vX_l, vX_j, reduceIte, Nat.reduceAdd]
    rw [c96 (N := N) hwy h3 hn hP hS hNw w0 w5 a0 a1]
    simp (disch := (first | assumption | omega | exact Nat.le_of_ble_eq_true rfl | rfl)) only [w132_0, w132_1, w132_2, w132_3, w132_6, w132_7, w132_10, w132_11, w132_14, w132_17, w132_18, w132_21, w132_24, w132_25, w132_28, w132_29, w132_32, w132_33, w132_36, w132_39, w132_40, w132_43, Ko_n, Ko_v, vX_i, vX_r, vX_l, vX_j, reduceIte, Nat.reduceAdd]
    rw [show dj W H (cp (prc σ 3 10 (frB (σ 405 3 0) w)) (σ 1000 144) (W * H)) N (std (cp (prc σ 3 10 (frB (σ 405 3 0) w)) (σ 1000 144) (W * H)) (σ 702 10 w) (σ 1001 144), (fun _ => false), σ 1005 144, 0) N = spr W H (cp (prc σ 3 10 (frB (σ 405 3 0) w)) (σ 1000 144) (W * H)) (σ 702 10 w) N (σ 1001 144) (σ 1005 144) from rfl] at hor hbr
    generalize hX : spr W H (cp (prc σ 3 10 (frB (σ 405 3 0) w)) (σ 1000 144) (W * H)) (σ 702 10 w) N (σ 1001 144) (σ 1005 144) = X at *
    generalize hC : cp (prc σ 3 10 (frB (σ 405 3 0) w)) (σ 1000 144) (W * H) = C at *
    generalize prc σ 3 10 (frB (σ 405 3 0) w) = c at *
    generalize σ 702 10 w = a at *
    obtain ⟨⟨O0, O1, O2, O3, O4⟩, hset⟩ := hor
    obtain ⟨r, hr⟩ : ∃ r : Nat, X.2.2.2 = r := ⟨X.2.2.2.toNat, by omega⟩
    have e0 : wyD (upA σ 1000 144 C) 144 X 1000 144 = C := by unfold wyD; rw [wyt (by omega) (by omega) (by omega) (by omega), upA_s]
    have e5 : wyD (upA σ 1000 144 C) 144 X 1005 144 = X.2.2.1 := wy5
    have e6 : wyD (upA σ 1000 144 C) 144 X 1006 144 0 = r := by
      have : wyD (upA σ 1000 144 C) 144 X 1006 144 = fun _ => X.2.2.2 := wy6
      rw [this]; exact hr
    rw [c108 (r := r) hwy h3 (hpW_wd hW).1 h (by rw [e0]; exact hcs) (by rw [wd1]; exact hfr) k0 (by omega) e6 (by omega) (fun i hi => by rw [e5]; exact (O1 i (by omega)).1), e0, e5, wd1]
    simp (disch := (first | assumption | omega | exact Nat.le_of_ble_eq_true rfl | rfl)) only [w132_0, w132_1, w132_2, w132_3, w132_6, w132_7, w132_10, w132_11, w132_14, w132_17, w132_18, w132_21, w132_24, w132_25, w132_28, w132_29, w132_32, w132_33, w132_36, w132_39, w132_40, w132_43, Ko_n, Ko_v, vX_i, vX_r, vX_l, vX_j, reduceIte, Nat.reduceAdd]
    have hpo : ∀ i : Nat, i < r → X.1 (X.2.2.1 i) < far ∧ (0 ≤ X.2.2.1 i ∧ X.2.2.1 i < W * H) := fun i hi => by
      have := O1 i (by omega)
      exact ⟨O4 _ this.1.1 this.1.2 this.2, this.1⟩
    have hcp : ∀ i : Nat, i < r → C (X.2.2.1 i) ≠ -1 := fun i hi => by
      have q := hpo i hi
      rw [hag _ q.2.1 q.2.2]
      by_cases e : X.2.2.1 i = a
      · rw [e]; exact hnw
      · obtain ⟨_, _, _, _, e4, _⟩ := hby _ q.2.1 q.2.2 e (by rw [← hsp _ q.2.1 (by omega)]; exact q.1)
        exact e4
    have ok := mny_ok (c := C) (f := X.1) (o := X.2.2.1) (g := fil (wyD (upA σ 1000 144 C) 144 X 1007 144) 36 (i64 0).toInt) (r := r) h hcs (fun k k0 k1 => by
      unfold fil
      rw [if_pos ⟨k0, by omega⟩, i64_toInt]) (fun i hi => (hpo i hi).2) (fun i j hij hj => O3 i j hij (by omega)) hcp r (Nat.le_refl r)
    have ha0 : X.1 a = 0 := by rw [hsp a a0 (by omega)]; exact hd0
    have hi0 : ∀ i : Nat, i < r → (X.2.2.1 i = a ↔ i = 0) := by
      intro i hi
      obtain ⟨ia, ia1, ia2⟩ := O2 a a0 a1 (hset a a0 a1 (by omega))
      have h00 : X.2.2.1 ((0 : Nat) : Int) = a := by
        by_cases e : ia = 0
        · rw [← e]; exact ia2
        · have t := O3 0 ia (by omega) ia1
          rw [ia2, ha0] at t
          have q := hpo 0 (by omega)
          refine Classical.byContradiction fun e2 => ?_
          obtain ⟨dd, _, _, e3, e4, e5'⟩ := hby _ q.2.1 q.2.2 e2 (by rw [← hsp _ q.2.1 (by omega)]; exact q.1)
          have hnb := nb_in h q.2.1 q.2.2 e3
          have g1 := hdf _ hnb.1 (by omega)
          have g2 := hcc _ q.2.1 q.2.2
          rw [← hsp _ q.2.1 (by omega)] at e5'
          omega
      constructor
      · intro e
        refine Classical.byContradiction fun e2 => ?_
        exact (O3 0 i (by omega) (by omega)).2 (h00.trans e.symm)
      · intro e; rw [e]; exact h00
    refine hq (fun k => i64 (mny W H C X.1 X.2.2.1 (fil (wyD (upA σ 1000 144 C) 144 X 1007 144) 36 (i64 0).toInt) r k)) ⟨?_, ?_⟩ _ (sg_u sg_wd (by omega))
    · intro j j0 j1 hj
      refine ok.2 j j0 j1 (fun i hi e => hj ?_)
      rw [← hsp j j0 (by omega), ← e]
      exact (hpo i hi).1
    · intro j j0 j1 hj
      obtain ⟨i, i1, i2⟩ := O2 j j0 j1 (hset j j0 j1 (by rw [hsp j j0 (by omega)]; exact hj))
      have q := ok.1 i (by omega)
      rw [i2] at q
      have e1 : (if i = 0 then i64 1 else i64 0) = (if j = a then i64 1 else i64 0) := by
        have := hi0 i (by omega)
        rw [i2] at this
        by_cases e : i = 0
        · rw [if_pos e, if_pos (this.mpr e)]
        · rw [if_neg e, if_neg (fun t => e (this.mp t))]
      show i64 (mny W H C X.1 X.2.2.1 (fil (wyD (upA σ 1000 144 C) 144 X 1007 144) 36 (i64 0).toInt) r j) = _
      rw [q, e1]
      congr 1
      exact mS_cg h j0 j1 (hag j j0 j1) (fun k k0 k1 => hsp k k0 (by omega)) (fun _ _ _ _ => rfl) 4 (Nat.le_refl 4)
  · rw [if_neg hv, Ko_x rfl]
    exact hQ1 hv
