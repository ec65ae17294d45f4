/-! ===== least costs: the greatest row that no step lessens ===== -/
theorem cnt_le {p q : Int → Bool} : ∀ n : Nat, (∀ k : Nat, k < n → p k = true → q k = true) → cnt p n ≤ cnt q n
  | 0, _ => Int.le_refl _
  | n + 1, h => by
    have ih := cnt_le n (fun k hk => h k (by omega))
    simp only [cnt]
    by_cases hp : p n = true
    · rw [if_pos hp, if_pos (h n (by omega) hp)]; omega
    · rw [if_neg hp]; split <;> omega
theorem cnt_lt {p q : Int → Bool} {j : Nat} (hq : q j = true) (hp : p j = false) : ∀ n : Nat, (∀ k : Nat, k < n → p k = true → q k = true) → j < n → cnt p n + 1 ≤ cnt q n
  | 0, _, hj => by omega
  | n + 1, h, hj => by
    simp only [cnt]
    by_cases e : j = n
    · subst e
      have ih := cnt_le j (fun k hk => h k (by omega))
      rw [if_pos hq, if_neg (by rw [hp]; decide)]
      omega
    · have ih := cnt_lt hq hp n (fun k hk => h k (by omega)) (by omega)
      by_cases hp2 : p n = true
      · rw [if_pos hp2, if_pos (h n (by omega) hp2)]; omega
      · rw [if_neg hp2]; split <;> omega
theorem cnt_all {q : Int → Bool} {n : Nat} (h : cnt q n = n) (k : Nat) (hk : k < n) : q k = true := by
  cases hq : q k with
  | true => rfl
  | false =>
    exfalso
    have a := cnt_lt (p := q) (q := fun _ => true) (j := k) rfl hq n (fun _ _ _ => rfl) hk
    have b := (cnt_in (p := fun _ => true) n).2
    omega
theorem cnt_add {q : Int → Bool} {z : Int} (hz : q z = false) : ∀ n : Nat, cnt (fun k => q k || decide (k = z)) n = cnt q n + if 0 ≤ z ∧ z < n then 1 else 0
  | 0 => by
    rw [if_neg (by omega)]
    rfl
  | n + 1 => by
    have ih := cnt_add hz n
    simp only [cnt]
    rw [ih]
    by_cases e : (n : Int) = z
    · rw [← e] at hz
      rw [if_neg (by omega), if_pos (by rw [hz, decide_eq_true e]; rfl), if_neg (by rw [hz]; decide), if_pos (by omega)]
    · simp only [decide_eq_false e, Bool.or_false]
      by_cases h2 : 0 ≤ z ∧ z < (n : Int)
      · rw [if_pos h2, if_pos (by omega : 0 ≤ z ∧ z < ((n + 1 : Nat) : Int))]; omega
      · rw [if_neg h2, if_neg (by omega : ¬ (0 ≤ z ∧ z < ((n + 1 : Nat) : Int)))]; omega
theorem nb_sym {W H k d : Int} (h : wh2 W H) (k0 : 0 ≤ k) (k1 : k < W * H) (d0 : 0 ≤ d) (d1 : d < 4) (hn : nbC W H k d ≠ -1) : nbC W H (nbC W H k d) (3 - d) = k := by
  obtain ⟨a, b, e, f⟩ := h
  have hW : W = 2 ∨ W = 3 ∨ W = 4 ∨ W = 5 ∨ W = 6 := by omega
  have hd : d = 0 ∨ d = 1 ∨ d = 2 ∨ d = 3 := by omega
  unfold nbC at hn ⊢
  rcases hd with rfl | rfl | rfl | rfl
  · simp only [show (3 - 0 : Int) = 3 from rfl, if_true, Int.reduceEq, if_false] at hn ⊢
    by_cases c : 0 < k / W
    · rw [if_pos c] at hn ⊢
      rcases hW with rfl | rfl | rfl | rfl | rfl <;> rw [if_pos (by omega)] <;> omega
    · rw [if_neg c] at hn; omega
  · simp only [show (3 - 1 : Int) = 2 from rfl, if_true, Int.reduceEq, if_false] at hn ⊢
    by_cases c : 0 < k % W
    · rw [if_pos c] at hn ⊢
      rcases hW with rfl | rfl | rfl | rfl | rfl <;> rw [if_pos (by omega)] <;> omega
    · rw [if_neg c] at hn; omega
  · simp only [show (3 - 2 : Int) = 1 from rfl, if_true, Int.reduceEq, if_false] at hn ⊢
    by_cases c : k % W < W - 1
    · rw [if_pos c] at hn ⊢
      rcases hW with rfl | rfl | rfl | rfl | rfl <;> rw [if_pos (by omega)] <;> omega
    · rw [if_neg c] at hn; omega
  · simp only [show (3 - 3 : Int) = 0 from rfl, if_true, Int.reduceEq, if_false] at hn ⊢
    by_cases c : k / W < H - 1
    · rw [if_pos c] at hn ⊢
      rcases hW with rfl | rfl | rfl | rfl | rfl <;> rw [if_pos (by omega)] <;> omega
    · rw [if_neg c] at hn; omega
/-- no step lessens a row -/
def cl1 (W H : Int) (c g : Int → Int) : Prop := ∀ k d : Int, 0 ≤ k → k < W * H → 0 ≤ d → d < 4 → nbC W H k d ≠ -1 → c (nbC W H k d) ≠ -1 → g (nbC W H k d) ≤ g k + c (nbC W H k d)
/-- the greatest such row that is nowhere more than another one -/
def gr1 (W H : Int) (c f y : Int → Int) : Prop := (∀ k, 0 ≤ k → k < W * H → y k ≤ f k) ∧ cl1 W H c y ∧ ∀ g : Int → Int, (∀ k, 0 ≤ k → k < W * H → g k ≤ f k) → cl1 W H c g → ∀ k, 0 ≤ k → k < W * H → g k ≤ y k
theorem gr1_u {W H : Int} {c f y y' : Int → Int} (h1 : gr1 W H c f y) (h2 : gr1 W H c f y') : agr (W * H) y y' := fun k k0 k1 => by
  have a := h1.2.2 y' h2.1 h2.2.1 k k0 k1
  have b := h2.2.2 y h1.1 h1.2.1 k k0 k1
  omega
theorem rlx_k {W H k : Int} {c f : Int → Int} (h : wh2 W H) (k0 : 0 ≤ k) (k1 : k < W * H) (n : Nat) : rlx W H c k f n k = f k := by
  induction n with
  | zero => rfl
  | succ n ih =>
    show rl1 W H c k n (rlx W H c k f n) k = f k
    unfold rl1
    split
    · exact ih
    · rename_i hz
      have hi := nb_in h k0 k1 (fun e => hz (Or.inl e) : nbC W H k n ≠ -1)
      rw [fu_n (fun e => hi.2.2 e.symm)]
      exact ih
theorem rlx_all {W H k : Int} {c f : Int → Int} (h : wh2 W H) (k0 : 0 ≤ k) (k1 : k < W * H) (j : Int) (n : Nat) : rlx W H c k f n j ≤ f j ∧ (∀ v, v ≤ f j → (∀ d : Nat, d < n → nbC W H k d = j → j ≠ -1 → c j ≠ -1 → v ≤ f k + c j) → v ≤ rlx W H c k f n j) ∧ ∀ d : Nat, d < n → nbC W H k d = j → j ≠ -1 → c j ≠ -1 → rlx W H c k f n j ≤ f k + c j := by
  induction n with
  | zero => exact ⟨Int.le_refl _, fun v hv _ => hv, fun d hd => by omega⟩
  | succ n ih =>
    obtain ⟨i1, i2, i3⟩ := ih
    have hk := rlx_k (c := c) (f := f) h k0 k1 n
    show rl1 W H c k n (rlx W H c k f n) j ≤ f j ∧ (∀ v, v ≤ f j → _ → v ≤ rl1 W H c k n (rlx W H c k f n) j) ∧ ∀ d : Nat, d < n + 1 → nbC W H k d = j → j ≠ -1 → c j ≠ -1 → rl1 W H c k n (rlx W H c k f n) j ≤ f k + c j
    unfold rl1
    by_cases hz : nbC W H k n = -1 ∨ c (nbC W H k n) = -1
    · rw [if_pos hz]
      refine ⟨i1, fun v hv hh => i2 v hv (fun d hd => hh d (by omega)), fun d hd e ej ec => ?_⟩
      by_cases e2 : d = n
      · subst e2
        rw [e] at hz
        rcases hz with hz | hz
        · exact absurd hz ej
        · exact absurd hz ec
      · exact i3 d (by omega) e ej ec
    · rw [if_neg hz]
      by_cases e : nbC W H k n = j
      · have ej : j ≠ -1 := fun e2 => hz (Or.inl (e.trans e2))
        have ec : c j ≠ -1 := fun e2 => hz (Or.inr (by rw [e]; exact e2))
        rw [e, fu_s, hk]
        refine ⟨by omega, fun v hv hh => ?_, fun d hd e2 _ _ => by omega⟩
        have a := i2 v hv (fun d hd => hh d (by omega))
        have b := hh n (by omega) e ej ec
        omega
      · rw [fu_n (fun e2 => e e2.symm)]
        refine ⟨i1, fun v hv hh => i2 v hv (fun d hd => hh d (by omega)), fun d hd e1 ej ec => ?_⟩
        by_cases e2 : d = n
        · subst e2; exact absurd e1 e
        · exact i3 d (by omega) e1 ej ec
def djI (W H : Int) (c f : Int → Int) (N : Nat) (x : Dj) : Prop :=
  (∀ k j, 0 ≤ k → k < W * H → 0 ≤ j → j < W * H → x.2.1 k = true → x.2.1 j = false → x.1 k ≤ x.1 j) ∧
  (∀ k d : Int, 0 ≤ k → k < W * H → 0 ≤ d → d < 4 → x.2.1 k = true → nbC W H k d ≠ -1 → c (nbC W H k d) ≠ -1 → x.1 (nbC W H k d) ≤ x.1 k + c (nbC W H k d)) ∧
  (∀ k, 0 ≤ k → k < W * H → x.1 k ≤ f k) ∧
  (∀ g : Int → Int, (∀ k, 0 ≤ k → k < W * H → g k ≤ f k) → cl1 W H c g → ∀ k, 0 ≤ k → k < W * H → g k ≤ x.1 k) ∧ cnt x.2.1 N = x.2.2.2
theorem djI_s {W H : Int} {c f : Int → Int} {N : Nat} {x : Dj} (h : wh2 W H) (hc : csIn c (W * H)) (hN : (N : Int) = W * H) (hx : frIn x.1) (hI : djI W H c f N x) (hz : (nr x.1 x.2.1 N).2 ≠ -1) : djI W H c f N (djS W H c N x) ∧ (djS W H c N x).2.2.2 = x.2.2.2 + 1 := by
  have hm := wh_mul h
  obtain ⟨ok1, ok2, ok3, ok4, ok5, ok6, ok7⟩ := nr_ok hx (q := x.2.1) N (by omega)
  obtain ⟨o1, o2, o3⟩ := ok6 hz
  obtain ⟨f1, q, od, r⟩ := x
  obtain ⟨I1, I2, I3, I4, I5⟩ := hI
  dsimp only at *
  generalize hk : (nr f1 q N).2 = k at *
  have hst : djS W H c N (f1, q, od, r) = (rlx W H c k f1 4, (fun j => q j || decide (j = k)), fu od r k, r + 1) := by
    unfold djS
    dsimp only
    rw [hk, if_neg hz]
  rw [hst]
  have kk0 : 0 ≤ k := by omega
  have kk1 : k < W * H := by omega
  have ra := fun j => rlx_all (c := c) (f := f1) h kk0 kk1 j 4
  have un : ∀ j, 0 ≤ j → j < W * H → q j = false → f1 k ≤ f1 j := fun j j0 j1 hj => by
    have := ok7 j.toNat (by omega) (by omega) (by rw [show ((j.toNat : Nat) : Int) = j by omega]; exact hj)
    rw [show ((j.toNat : Nat) : Int) = j by omega] at this
    omega
  have se : ∀ j, 0 ≤ j → j < W * H → (q j = true ∨ j = k) → rlx W H c k f1 4 j = f1 j := fun j j0 j1 hj => by
    rcases hj with hj | hj
    · have a := I1 j k j0 j1 kk0 kk1 hj o3
      have b := (ra j).1
      have d := (ra j).2.1 (f1 j) (Int.le_refl _) (fun dd hd e ej ec => by
        have := hc j j0 j1
        omega)
      omega
    · rw [hj]
      exact rlx_k h kk0 kk1 4
  have lo : ∀ j, 0 ≤ j → j < W * H → f1 k ≤ f1 j → f1 k ≤ rlx W H c k f1 4 j := fun j j0 j1 hj => (ra j).2.1 (f1 k) hj (fun dd hd e ej ec => by
    have := hc j j0 j1
    omega)
  refine ⟨⟨?_, ?_, ?_, ?_, ?_⟩, rfl⟩
  · intro a b a0 a1 b0 b1 ha hb
    dsimp only at ha hb ⊢
    simp only [Bool.or_eq_true, decide_eq_true_eq] at ha
    simp only [Bool.or_eq_false_iff, decide_eq_false_iff_not] at hb
    rw [se a a0 a1 ha]
    have u := un b b0 b1 hb.1
    have l := lo b b0 b1 u
    rcases ha with ha | ha
    · have := I1 a k a0 a1 kk0 kk1 ha o3
      omega
    · rw [ha]; exact l
  · intro a d a0 a1 d0 d1 ha hn hcn
    dsimp only at ha ⊢
    simp only [Bool.or_eq_true, decide_eq_true_eq] at ha
    rw [se a a0 a1 ha]
    rcases ha with ha | ha
    · have u := I2 a d a0 a1 d0 d1 ha hn hcn
      have v := (ra (nbC W H a d)).1
      omega
    · have v := (ra (nbC W H a d)).2.2 d.toNat (by omega) (by rw [show ((d.toNat : Nat) : Int) = d by omega, ha]) hn hcn
      rw [ha] at v ⊢
      exact v
  · intro a a0 a1
    have := (ra a).1
    have := I3 a a0 a1
    dsimp only
    omega
  · intro g hg hcg a a0 a1
    have i4 := I4 g hg hcg
    refine (ra a).2.1 (g a) (i4 a a0 a1) ?_
    intro dd hd e ej ec
    have u := hcg k dd kk0 kk1 (by omega) (by omega) (by rw [e]; exact ej) (by rw [e]; exact ec)
    rw [e] at u
    have := i4 k kk0 kk1
    omega
  · show cnt (fun j => q j || decide (j = k)) N = r + 1
    rw [cnt_add o3 N, if_pos ⟨kk0, by omega⟩, I5]
theorem dj_gr {W H : Int} {c f o : Int → Int} {N : Nat} (h : wh2 W H) (hc : csIn c (W * H)) (hN : (N : Int) = W * H) (hf : frIn f) : gr1 W H c f (dj W H c N (f, (fun _ => false), o, 0) N).1 := by
  have hm := wh_mul h
  have hin := fun n => (dj_in (x := (f, (fun _ => false), o, 0)) h hc hN hf rfl n).1
  have inv : ∀ n : Nat, djI W H c f N (dj W H c N (f, (fun _ => false), o, 0) n) ∧ ((dj W H c N (f, (fun _ => false), o, 0) n).2.2.2 = n ∨ (nr (dj W H c N (f, (fun _ => false), o, 0) n).1 (dj W H c N (f, (fun _ => false), o, 0) n).2.1 N).2 = -1) := by
    intro n
    induction n with
    | zero =>
      refine ⟨⟨?_, ?_, ?_, ?_, ?_⟩, Or.inl rfl⟩
      · intro k j _ _ _ _ hk _
        exact absurd (show false = true from hk) (by decide)
      · intro k d _ _ _ _ hk _ _
        exact absurd (show false = true from hk) (by decide)
      · intro k _ _; exact Int.le_refl _
      · intro g hg _ k k0 k1; exact hg k k0 k1
      · have : ∀ m : Nat, cnt (fun _ => false) m = 0 := by
          intro m
          induction m with
          | zero => rfl
          | succ m ih => simp only [cnt]; rw [ih]; rfl
        exact this N
    | succ n ih =>
      show djI W H c f N (djS W H c N (dj W H c N (f, (fun _ => false), o, 0) n)) ∧ ((djS W H c N (dj W H c N (f, (fun _ => false), o, 0) n)).2.2.2 = ((n + 1 : Nat) : Int) ∨ (nr (djS W H c N (dj W H c N (f, (fun _ => false), o, 0) n)).1 (djS W H c N (dj W H c N (f, (fun _ => false), o, 0) n)).2.1 N).2 = -1)
      have hi := hin n
      generalize dj W H c N (f, (fun _ => false), o, 0) n = x at ih hi ⊢
      by_cases hz : (nr x.1 x.2.1 N).2 = -1
      · have e : djS W H c N x = x := by unfold djS; rw [if_pos hz]
        rw [e]
        exact ⟨ih.1, Or.inr hz⟩
      · have s := djI_s h hc hN hi ih.1 hz
        refine ⟨s.1, Or.inl ?_⟩
        rcases ih.2 with a | a
        · rw [s.2, a]; omega
        · exact absurd a hz
  obtain ⟨⟨I1, I2, I3, I4, I5⟩, hend⟩ := inv N
  have hi := hin N
  generalize dj W H c N (f, (fun _ => false), o, 0) N = x at I1 I2 I3 I4 I5 hend hi ⊢
  refine ⟨I3, ?_, I4⟩
  intro k d k0 k1 d0 d1 hn hcn
  have hnb := nb_in h k0 k1 hn
  cases hq : x.2.1 k with
  | true => exact I2 k d k0 k1 d0 d1 hq hn hcn
  | false =>
    rcases hend with e | e
    · exfalso
      have := cnt_all (I5.trans e) k.toNat (by omega)
      rw [show ((k.toNat : Nat) : Int) = k by omega, hq] at this
      cases this
    · obtain ⟨ok1, ok2, ok3, ok4, ok5, ok6, ok7⟩ := nr_ok hi (q := x.2.1) N (by omega)
      have a := ok7 k.toNat (by omega) (by omega) (by rw [show ((k.toNat : Nat) : Int) = k by omega]; exact hq)
      rw [ok5 e, show ((k.toNat : Nat) : Int) = k by omega] at a
      have b := (hi (nbC W H k d) hnb.1 (by omega)).2
      have := hc _ hnb.1 hnb.2.1
      omega
/-- where the row lessened its start, a step does it -/
theorem gr1_by {W H : Int} {c f y : Int → Int} (h : wh2 W H) (hg : gr1 W H c f y) {z : Int} (z0 : 0 ≤ z) (z1 : z < W * H) (hz : y z < f z) : ∃ d : Int, 0 ≤ d ∧ d < 4 ∧ nbC W H z d ≠ -1 ∧ c z ≠ -1 ∧ y z = y (nbC W H z d) + c z := by
  refine Classical.byContradiction fun hno => ?_
  have hc1 := hg.2.1
  have key : cl1 W H c (fu y z (y z + 1)) := by
    intro k d k0 k1 d0 d1 hn hcn
    have hnb := nb_in h k0 k1 hn
    have hs := nb_sym h k0 k1 d0 d1 hn
    have b := hc1 k d k0 k1 d0 d1 hn hcn
    by_cases e : nbC W H k d = z
    · have e2 : k ≠ z := fun e3 => hnb.2.2 (e.trans e3.symm)
      rw [e] at b hs hcn ⊢
      rw [fu_s, fu_n e2]
      have : ¬ y z = y k + c z := fun e4 => hno ⟨3 - d, by omega, by omega, by rw [hs]; omega, hcn, by rw [hs]; exact e4⟩
      omega
    · rw [fu_n e]
      by_cases e2 : k = z
      · rw [e2, fu_s]; rw [e2] at b; omega
      · rw [fu_n e2]; exact b
  have := hg.2.2 (fu y z (y z + 1)) (fun k k0 k1 => by
    by_cases e : k = z
    · rw [e, fu_s]; omega
    · rw [fu_n e]; exact hg.1 k k0 k1) key z z0 z1
  rw [fu_s] at this
  omega
