/-! ===== a way more: the flow grows by one ===== -/
def FlA (W H a z : Int) (op pq : Int → Bool) (al : Int → Int) (N : Nat) (l : Int) : Prop :=
  alIn al ∧ (∀ b c, 0 ≤ b → b < W * H → 0 ≤ c → c < W * H → sdT W H b c ≠ -1 → al (sdT W H b c) ≠ 0 → op c = true) ∧ pq a = false ∧
  (∀ c, 0 ≤ c → c < W * H → sumF (fun b => fwA W H al b c) N = ivB (pq c) + (if c = z then l else 0)) ∧
  (∀ c, 0 ≤ c → c < W * H → sumF (fun b => fwA W H al c b) N = ivB (pq c) + (if c = a then l else 0))
def TrX (W H a z l : Int) (op pq : Int → Bool) (al src r : Int → Int) (N : Nat) (y : Tv) : Prop :=
  0 ≤ y.1 ∧ y.1 < 2 * (W * H) ∧ src y.1 ≠ -1 ∧ y.1 ≠ 2 * a ∧ y.2.1 a = false ∧ alIn y.2.2 ∧
  (∀ b c, 0 ≤ b → b < W * H → 0 ≤ c → c < W * H → sdT W H b c ≠ -1 → y.2.2 (sdT W H b c) ≠ 0 → op c = true) ∧
  (∀ c, 0 ≤ c → c < W * H → sumF (fun b => fwA W H y.2.2 b c) N = ivB (y.2.1 c) + (if c = z then l + 1 else 0) - (if y.1 = 2 * c then 1 else 0)) ∧
  (∀ c, 0 ≤ c → c < W * H → sumF (fun b => fwA W H y.2.2 c b) N = ivB (y.2.1 c) + (if c = a then l else 0) + (if y.1 = 2 * c + 1 then 1 else 0)) ∧
  (∀ c, 0 ≤ c → c < W * H → (r (2 * c) < r y.1 ∨ r (2 * c + 1) < r y.1) → y.2.1 c = pq c) ∧
  (∀ b c, 0 ≤ b → b < W * H → 0 ≤ c → c < W * H → sdT W H b c ≠ -1 → (r (2 * b + 1) < r y.1 ∨ r (2 * c) < r y.1) → y.2.2 (sdT W H b c) = al (sdT W H b c))
theorem sdT_inj {W H b c b' c' : Int} (b0 : 0 ≤ b) (b0' : 0 ≤ b') (hs : sdT W H b c ≠ -1) (e : sdT W H b' c' = sdT W H b c) : b' = b ∧ c' = c := by
  obtain ⟨j, j0, j1, j2, j3⟩ := sdT_x b0 hs
  obtain ⟨i, i0, i1, i2, i3⟩ := sdT_x b0' (by rw [e]; exact hs)
  have eb : b' = b := by omega
  have ej : i = j := by omega
  exact ⟨eb, by rw [← j3, ← i3, eb, ej]⟩
theorem tvS_T {W H a z l : Int} {op pq : Int → Bool} {al src r : Int → Int} {N : Nat} {y : Tv} (h : wh2 W H) (hN : (N : Int) = W * H) (hs : ∀ j, 0 ≤ j → j < 72 → -1 ≤ src j ∧ src j < 2 * (W * H)) (hcl : ∀ j, src j ≠ -1 → 0 ≤ j → j < 72 → src (src j) ≠ -1)
    (hr : ∀ v, 0 ≤ v → v < 72 → src v ≠ -1 → v ≠ 2 * a → v = 2 * a + 1 ∨ (arcR W H op pq al (src v) v ∧ src v ≠ 2 * a ∧ r (src v) < r v)) (t : TrX W H a z l op pq al src r N y) (ny : y.1 ≠ 2 * a + 1) : TrX W H a z l op pq al src r N (tvS W H src a y) ∧ r (tvS W H src a y).1 < r y.1 := by
  have hm := wh_mul h
  obtain ⟨x, q, am⟩ := y
  obtain ⟨t1, t2, t3, t4, t5, t6, t7, t8, t9, t10, t11⟩ := t
  dsimp only at t1 t2 t3 t4 t5 t6 t7 t8 t9 t10 t11 ny
  rcases hr x t1 (by omega) t3 t4 with e | ⟨ar, na, rl⟩
  · exact absurd e ny
  have c0 := hcl x t3 t1 (by omega)
  have rg := hs x t1 (by omega)
  obtain ⟨u, hu⟩ : ∃ u, src x = u := ⟨_, rfl⟩
  unfold tvS
  dsimp only
  rw [if_neg ny, hu]
  rw [hu] at ar na rl c0 rg
  rcases ar with ⟨c, c1, c2, e1, e2, e3⟩ | ⟨c, c1, c2, e1, e2, e3⟩ | ⟨b, c, b1, b2, c1, c2, bc, e1, e2, e3, e4, e5⟩ | ⟨b, c, b1, b2, c1, c2, bc, e1, e2, e4, e5⟩
  · subst e1
    subst e2
    have qc : q c = false := (t10 c c1 c2 (Or.inl rl)).trans e3
    rw [if_pos (show 2 * c / 2 = (2 * c + 1) / 2 by omega), show 2 * c / 2 = c by omega]
    have q1 : xor (q c) (decide (c = c)) = true := by rw [qc, decide_eq_true rfl]; rfl
    have q2 : ∀ k, k ≠ c → xor (q k) (decide (k = c)) = q k := fun k hk => by rw [decide_eq_false hk]; cases q k <;> rfl
    refine ⟨⟨by show 0 ≤ 2 * c; omega, by show 2 * c < 2 * (W * H); omega, c0, na, ?_, t6, t7, ?_, ?_, ?_, ?_⟩, rl⟩
    · show xor (q a) (decide (a = c)) = false
      rw [q2 a (by omega)]; exact t5
    · intro k k0 k1
      have o := t8 k k0 k1
      show sumF (fun b => fwA W H am b k) N = ivB (xor (q k) (decide (k = c))) + (if k = z then l + 1 else 0) - (if 2 * c = 2 * k then 1 else 0)
      rw [o, if_neg (show ¬ (2 * c + 1 = 2 * k) by omega)]
      by_cases e : k = c
      · rw [e, q1, qc, if_pos (show 2 * c = 2 * c from rfl)]
        generalize (if c = z then l + 1 else 0) = w
        show 0 + w - 0 = 1 + w - 1
        omega
      · rw [q2 k e, if_neg (show ¬ (2 * c = 2 * k) by omega)]
    · intro k k0 k1
      have o := t9 k k0 k1
      show sumF (fun b => fwA W H am k b) N = ivB (xor (q k) (decide (k = c))) + (if k = a then l else 0) + (if 2 * c = 2 * k + 1 then 1 else 0)
      rw [o, if_neg (show ¬ (2 * c = 2 * k + 1) by omega)]
      by_cases e : k = c
      · rw [e, q1, qc, if_pos (show 2 * c + 1 = 2 * c + 1 from rfl)]
        generalize (if c = a then l else 0) = w
        show 0 + w + 1 = 1 + w + 0
        omega
      · rw [q2 k e, if_neg (show ¬ (2 * c + 1 = 2 * k + 1) by omega)]
    · intro k k0 k1 hk
      have hk' : r (2 * k) < r (2 * c) ∨ r (2 * k + 1) < r (2 * c) := hk
      show xor (q k) (decide (k = c)) = pq k
      by_cases e : k = c
      · rw [e] at hk'; omega
      · rw [q2 k e]; exact t10 k k0 k1 (by omega)
    · intro b' c' h1 h2 h3 h4 h5 hk
      have hk' : r (2 * b' + 1) < r (2 * c) ∨ r (2 * c') < r (2 * c) := hk
      exact t11 b' c' h1 h2 h3 h4 h5 (by omega)
  · subst e1
    subst e2
    have qc : q c = true := (t10 c c1 c2 (Or.inr rl)).trans e3
    rw [if_pos (show (2 * c + 1) / 2 = 2 * c / 2 by omega), show (2 * c + 1) / 2 = c by omega]
    have q1 : xor (q c) (decide (c = c)) = false := by rw [qc, decide_eq_true rfl]; rfl
    have q2 : ∀ k, k ≠ c → xor (q k) (decide (k = c)) = q k := fun k hk => by rw [decide_eq_false hk]; cases q k <;> rfl
    refine ⟨⟨by show 0 ≤ 2 * c + 1; omega, by show 2 * c + 1 < 2 * (W * H); omega, c0, na, ?_, t6, t7, ?_, ?_, ?_, ?_⟩, rl⟩
    · show xor (q a) (decide (a = c)) = false
      rw [q2 a (by omega)]; exact t5
    · intro k k0 k1
      have o := t8 k k0 k1
      show sumF (fun b => fwA W H am b k) N = ivB (xor (q k) (decide (k = c))) + (if k = z then l + 1 else 0) - (if 2 * c + 1 = 2 * k then 1 else 0)
      rw [o, if_neg (show ¬ (2 * c + 1 = 2 * k) by omega)]
      by_cases e : k = c
      · rw [e, q1, qc, if_pos (show 2 * c = 2 * c from rfl)]
        generalize (if c = z then l + 1 else 0) = w
        show 1 + w - 1 = 0 + w - 0
        omega
      · rw [q2 k e, if_neg (show ¬ (2 * c = 2 * k) by omega)]
    · intro k k0 k1
      have o := t9 k k0 k1
      show sumF (fun b => fwA W H am k b) N = ivB (xor (q k) (decide (k = c))) + (if k = a then l else 0) + (if 2 * c + 1 = 2 * k + 1 then 1 else 0)
      rw [o, if_neg (show ¬ (2 * c = 2 * k + 1) by omega)]
      by_cases e : k = c
      · rw [e, q1, qc, if_pos (show 2 * c + 1 = 2 * c + 1 from rfl)]
        generalize (if c = a then l else 0) = w
        show 1 + w + 0 = 0 + w + 1
        omega
      · rw [q2 k e, if_neg (show ¬ (2 * c + 1 = 2 * k + 1) by omega)]
    · intro k k0 k1 hk
      have hk' : r (2 * k) < r (2 * c + 1) ∨ r (2 * k + 1) < r (2 * c + 1) := hk
      show xor (q k) (decide (k = c)) = pq k
      by_cases e : k = c
      · rw [e] at hk'; omega
      · rw [q2 k e]; exact t10 k k0 k1 (by omega)
    · intro b' c' h1 h2 h3 h4 h5 hk
      have hk' : r (2 * b' + 1) < r (2 * c + 1) ∨ r (2 * c') < r (2 * c + 1) := hk
      exact t11 b' c' h1 h2 h3 h4 h5 (by omega)
  · subst e1
    subst e2
    have a0 : am (sdT W H b c) = 0 := (t11 b c b1 b2 c1 c2 e4 (Or.inl rl)).trans e5
    rw [if_neg (show ¬ ((2 * b + 1) / 2 = 2 * c / 2) by omega), if_pos (show (2 * b + 1) % 2 = 1 by omega), show (2 * b + 1) / 2 = b by omega, show 2 * c / 2 = c by omega, if_neg e4]
    obtain ⟨u1, u2⟩ := fw_up (al := am) (v := 1) hN b1 b2 c1 c2 e4
    rw [a0] at u1 u2
    refine ⟨⟨by show 0 ≤ 2 * b + 1; omega, by show 2 * b + 1 < 2 * (W * H); omega, c0, na, t5, ?_, ?_, ?_, ?_, ?_, ?_⟩, rl⟩
    · intro j j0 j1
      show fu am (sdT W H b c) 1 j = 0 ∨ fu am (sdT W H b c) 1 j = 1
      by_cases e : j = sdT W H b c
      · rw [e, fu_s]; exact Or.inr rfl
      · rw [fu_n e]; exact t6 j j0 j1
    · intro b' c' h1 h2 h3 h4 h5 hk
      by_cases e : sdT W H b' c' = sdT W H b c
      · rw [(sdT_inj b1 h1 e4 e).2]; exact e3
      · have hk' : fu am (sdT W H b c) 1 (sdT W H b' c') ≠ 0 := hk
        rw [fu_n e] at hk'
        exact t7 b' c' h1 h2 h3 h4 h5 hk'
    · intro k k0 k1
      show sumF (fun b' => fwA W H (fu am (sdT W H b c) 1) b' k) N = ivB (q k) + (if k = z then l + 1 else 0) - (if 2 * b + 1 = 2 * k then 1 else 0)
      rw [u1 k, t8 k k0 k1, if_neg (show ¬ (2 * b + 1 = 2 * k) by omega)]
      by_cases e : k = c
      · rw [if_pos e, if_pos (show 2 * c = 2 * k by omega)]; omega
      · rw [if_neg e, if_neg (show ¬ (2 * c = 2 * k) by omega)]; omega
    · intro k k0 k1
      show sumF (fun c' => fwA W H (fu am (sdT W H b c) 1) k c') N = ivB (q k) + (if k = a then l else 0) + (if 2 * b + 1 = 2 * k + 1 then 1 else 0)
      rw [u2 k k0, t9 k k0 k1, if_neg (show ¬ (2 * c = 2 * k + 1) by omega)]
      by_cases e : k = b
      · rw [if_pos e, if_pos (show 2 * b + 1 = 2 * k + 1 by omega)]; omega
      · rw [if_neg e, if_neg (show ¬ (2 * b + 1 = 2 * k + 1) by omega)]; omega
    · intro k k0 k1 hk
      have hk' : r (2 * k) < r (2 * b + 1) ∨ r (2 * k + 1) < r (2 * b + 1) := hk
      exact t10 k k0 k1 (by omega)
    · intro b' c' h1 h2 h3 h4 h5 hk
      have hk' : r (2 * b' + 1) < r (2 * b + 1) ∨ r (2 * c') < r (2 * b + 1) := hk
      show fu am (sdT W H b c) 1 (sdT W H b' c') = al (sdT W H b' c')
      rw [fu_n (fun e => by
        obtain ⟨x1, x2⟩ := sdT_inj b1 h1 e4 e
        rw [x1, x2] at hk'
        omega)]
      exact t11 b' c' h1 h2 h3 h4 h5 (by omega)
  · subst e1
    subst e2
    have a0 : am (sdT W H b c) = 1 := by
      have g := t11 b c b1 b2 c1 c2 e4 (Or.inr rl)
      rcases sdT_in (c := b) (n := c) h (by omega) b2 with x | ⟨x, y, _⟩
      · exact absurd x e4
      · rcases t6 _ x y with t | t
        · exact absurd (g.symm.trans t) e5
        · exact t
    rw [if_neg (show ¬ (2 * c / 2 = (2 * b + 1) / 2) by omega), if_neg (show ¬ (2 * c % 2 = 1) by omega), show (2 * b + 1) / 2 = b by omega, show 2 * c / 2 = c by omega, if_neg e4]
    obtain ⟨u1, u2⟩ := fw_up (al := am) (v := 0) hN b1 b2 c1 c2 e4
    rw [a0] at u1 u2
    refine ⟨⟨by show 0 ≤ 2 * c; omega, by show 2 * c < 2 * (W * H); omega, c0, na, t5, ?_, ?_, ?_, ?_, ?_, ?_⟩, rl⟩
    · intro j j0 j1
      show fu am (sdT W H b c) 0 j = 0 ∨ fu am (sdT W H b c) 0 j = 1
      by_cases e : j = sdT W H b c
      · rw [e, fu_s]; exact Or.inl rfl
      · rw [fu_n e]; exact t6 j j0 j1
    · intro b' c' h1 h2 h3 h4 h5 hk
      have hk' : fu am (sdT W H b c) 0 (sdT W H b' c') ≠ 0 := hk
      by_cases e : sdT W H b' c' = sdT W H b c
      · rw [e, fu_s] at hk'; exact absurd rfl hk'
      · rw [fu_n e] at hk'
        exact t7 b' c' h1 h2 h3 h4 h5 hk'
    · intro k k0 k1
      show sumF (fun b' => fwA W H (fu am (sdT W H b c) 0) b' k) N = ivB (q k) + (if k = z then l + 1 else 0) - (if 2 * c = 2 * k then 1 else 0)
      rw [u1 k, t8 k k0 k1, if_neg (show ¬ (2 * b + 1 = 2 * k) by omega)]
      by_cases e : k = c
      · rw [if_pos e, if_pos (show 2 * c = 2 * k by omega)]; omega
      · rw [if_neg e, if_neg (show ¬ (2 * c = 2 * k) by omega)]; omega
    · intro k k0 k1
      show sumF (fun c' => fwA W H (fu am (sdT W H b c) 0) k c') N = ivB (q k) + (if k = a then l else 0) + (if 2 * c = 2 * k + 1 then 1 else 0)
      rw [u2 k k0, t9 k k0 k1, if_neg (show ¬ (2 * c = 2 * k + 1) by omega)]
      by_cases e : k = b
      · rw [if_pos e, if_pos (show 2 * b + 1 = 2 * k + 1 by omega)]; omega
      · rw [if_neg e, if_neg (show ¬ (2 * b + 1 = 2 * k + 1) by omega)]; omega
    · intro k k0 k1 hk
      have hk' : r (2 * k) < r (2 * c) ∨ r (2 * k + 1) < r (2 * c) := hk
      exact t10 k k0 k1 (by omega)
    · intro b' c' h1 h2 h3 h4 h5 hk
      have hk' : r (2 * b' + 1) < r (2 * c) ∨ r (2 * c') < r (2 * c) := hk
      show fu am (sdT W H b c) 0 (sdT W H b' c') = al (sdT W H b' c')
      rw [fu_n (fun e => by
        obtain ⟨x1, x2⟩ := sdT_inj b1 h1 e4 e
        rw [x1, x2] at hk'
        omega)]
      exact t11 b' c' h1 h2 h3 h4 h5 (by omega)
theorem fl_aug {W H a z l : Int} {op pq : Int → Bool} {al : Int → Int} {N : Nat} {x : Ct} (h : wh2 W H) (hN : (N : Int) = W * H) (z0 : 0 ≤ z) (z1 : z < W * H) (az : a ≠ z) (F : FlA W H a z op pq al N l) (B : BFx W H op pq al a x) (hz : x.1 (2 * z) ≠ -1) : FlA W H a z op (tvI W H x.1 a (2 * z, pq, al) 72).2.1 (tvI W H x.1 a (2 * z, pq, al) 72).2.2 N (l + 1) := by
  have hm := wh_mul h
  obtain ⟨b1, b2, b3, b4, b5, b6, b7, r, b8⟩ := B
  obtain ⟨f1, f2, f3, f4, f5⟩ := F
  have t0 : TrX W H a z l op pq al x.1 r N (2 * z, pq, al) := by
    refine ⟨by show 0 ≤ 2 * z; omega, by show 2 * z < 2 * (W * H); omega, hz, by show 2 * z ≠ 2 * a; omega, f3, f1, f2, fun c c0 c1 => ?_, fun c c0 c1 => ?_, fun _ _ _ _ => rfl, fun _ _ _ _ _ _ _ _ => rfl⟩
    · show sumF (fun b => fwA W H al b c) N = ivB (pq c) + (if c = z then l + 1 else 0) - (if 2 * z = 2 * c then 1 else 0)
      rw [f4 c c0 c1]
      by_cases e : c = z
      · rw [if_pos e, if_pos e, if_pos (show 2 * z = 2 * c by omega)]; omega
      · rw [if_neg e, if_neg e, if_neg (show ¬ (2 * z = 2 * c) by omega)]; omega
    · show sumF (fun b => fwA W H al c b) N = ivB (pq c) + (if c = a then l else 0) + (if 2 * z = 2 * c + 1 then 1 else 0)
      rw [f5 c c0 c1, if_neg (show ¬ (2 * z = 2 * c + 1) by omega), Int.add_zero]
  have all : ∀ n : Nat, TrX W H a z l op pq al x.1 r N (tvI W H x.1 a (2 * z, pq, al) n) ∧ ((tvI W H x.1 a (2 * z, pq, al) n).1 = 2 * a + 1 ∨ r (tvI W H x.1 a (2 * z, pq, al) n).1 + n ≤ r (2 * z)) := by
    intro n
    induction n with
    | zero => exact ⟨t0, Or.inr (by show r (2 * z) + 0 ≤ r (2 * z); omega)⟩
    | succ n ih =>
      simp only [tvI]
      generalize tvI W H x.1 a (2 * z, pq, al) n = y at ih ⊢
      by_cases e : y.1 = 2 * a + 1
      · have e2 : tvS W H x.1 a y = y := by unfold tvS; rw [if_pos e]
        rw [e2]
        exact ⟨ih.1, Or.inl e⟩
      · have s := tvS_T h hN b1.1 b2.1 (fun v v0 v1 hv va => (b8 v v0 v1 hv va).2.2) ih.1 e
        refine ⟨s.1, Or.inr ?_⟩
        rcases ih.2 with g | g
        · exact absurd g e
        · have := s.2
          omega
  obtain ⟨t, g⟩ := all 72
  generalize tvI W H x.1 a (2 * z, pq, al) 72 = y at t g ⊢
  obtain ⟨t1, t2, t3, t4, t5, t6, t7, t8, t9, t10, t11⟩ := t
  have e : y.1 = 2 * a + 1 := by
    rcases g with g | g
    · exact g
    · have p1 := b8 y.1 t1 (by omega) t3 t4
      have p2 := b8 (2 * z) (by omega) (by omega) hz (by omega)
      have p3 := b1.2.2.1
      omega
  rw [e] at t8 t9
  refine ⟨t6, t7, t5, fun c c0 c1 => ?_, fun c c0 c1 => ?_⟩
  · rw [t8 c c0 c1, if_neg (show ¬ (2 * a + 1 = 2 * c) by omega)]; omega
  · rw [t9 c c0 c1]
    by_cases e : c = a
    · rw [if_pos e, if_pos e, if_pos (show 2 * a + 1 = 2 * c + 1 by omega)]; omega
    · rw [if_neg e, if_neg e, if_neg (show ¬ (2 * a + 1 = 2 * c + 1) by omega)]; omega
/-! ===== sums over both ends; a flow forbids a smaller cut ===== -/
theorem sum_id {f g : Int → Int} {F : Int → Int → Int} (N : Nat) : sumF (fun b => sumF (fun c => (f b - g c) * F b c) N) N = sumF (fun c => f c * sumF (fun d => F c d) N - g c * sumF (fun b => F b c) N) N := by
  have e1 : ∀ b, sumF (fun c => (f b - g c) * F b c) N = f b * sumF (fun d => F b d) N - sumF (fun c => g c * F b c) N := by
    intro b
    rw [← sumF_mul, ← sumF_sub]
    exact sumF_eq N (fun k _ _ => Int.sub_mul _ _ _)
  rw [sumF_eq N (fun b _ _ => e1 b), sumF_sub, sumF_sub, sumF_sw (F := fun b c => g c * F b c)]
  rw [sumF_eq (f := fun c => sumF (fun b => g c * F b c) N) (g := fun c => g c * sumF (fun b => F b c) N) N (fun c _ _ => sumF_mul N)]
theorem sum_pt {a l : Int} {N : Nat} (a0 : 0 ≤ a) (a1 : a < N) : sumF (fun c => if c = a then l else 0) N = l := by
  rw [sumF_one (x := a) (f := fun _ => 0) N (fun k _ _ kn => if_neg kn), sumF_0 N (fun _ _ _ => rfl), if_pos ⟨a0, a1⟩, if_pos rfl]
  omega
theorem fl_low {W H a z l : Int} {op pq s : Int → Bool} {al : Int → Int} {N : Nat} (h : wh2 W H) (hN : (N : Int) = W * H) (a0 : 0 ≤ a) (a1 : a < W * H) (az : a ≠ z) (F : FlA W H a z op pq al N l) (ho : ∀ k, op k = true → 0 ≤ k ∧ k < W * H) (oa : op a = true) (sa : s a = false) (sz : s z = false) (hb : flI W H (fun k => op k && !s k) a 36 z = false) : l ≤ cnt s N := by
  have hm := wh_mul h
  obtain ⟨f1, f2, f3, f4, f5⟩ := F
  obtain ⟨R, hR⟩ : ∃ R, R = flI W H (fun k => op k && !s k) a 36 := ⟨_, rfl⟩
  have Ra : R a = true := by
    have e0 : flI W H (fun k => op k && !s k) a 0 a = true := by
      show (decide (a = a) && (op a && !s a)) = true
      rw [oa, sa, decide_eq_true rfl]; rfl
    have := flI_up e0 36
    rw [hR]
    exact this
  have Rz : R z = false := by rw [hR]; exact hb
  have id := sum_id (f := fun c => ivB (R c)) (g := fun c => ivB (R c)) (F := fwA W H al) N
  have tm : sumF (fun c => ivB (R c) * sumF (fun d => fwA W H al c d) N - ivB (R c) * sumF (fun b => fwA W H al b c) N) N = l := by
    rw [← sum_pt (l := l) (N := N) a0 (by omega)]
    refine sumF_eq N (fun c c0 c1 => ?_)
    rw [f4 c c0 (by omega), f5 c c0 (by omega)]
    by_cases ez : c = z
    · rw [ez, Rz, if_neg (show ¬ z = a from fun t => az t.symm)]
      show 0 * _ - 0 * _ = 0
      rw [Int.zero_mul, Int.zero_mul]; rfl
    · by_cases ea : c = a
      · rw [ea, Ra, if_pos rfl, if_neg az]
        show 1 * _ - 1 * _ = l
        rw [Int.one_mul, Int.one_mul]; omega
      · rw [if_neg ez, if_neg ea]; omega
  rw [tm] at id
  have up : sumF (fun b => sumF (fun c => (ivB (R b) - ivB (R c)) * fwA W H al b c) N) N ≤ sumF (fun b => sumF (fun c => ivB (s c) * fwA W H al b c) N) N := by
    refine sumF_le N (fun b b0 b1 => sumF_le N (fun c c0 c1 => ?_))
    rcases fwA_in (c := c) h f1 b0 (by omega : b < W * H) with e | ⟨e, e2, e3⟩
    · rw [e, Int.mul_zero, Int.mul_zero]; omega
    · rw [e, Int.mul_one, Int.mul_one]
      have s0 := ivB_in (s c)
      have r1 := ivB_in (R b)
      have r2 := ivB_in (R c)
      cases hs : s c with
      | true => show ivB (R b) - ivB (R c) ≤ 1; omega
      | false =>
        show ivB (R b) - ivB (R c) ≤ 0
        cases hb2 : R b with
        | false => show 0 - ivB (R c) ≤ 0; omega
        | true =>
          obtain ⟨j, j0, j1, j2, j3⟩ := sdT_x b0 e2
          have oc := f2 b c b0 (by omega) c0 (by omega) e2 e3
          have := flI_cl (z := a) (o := fun k => op k && !s k) (k := b) (d := j) h hN (fun k hk => by rw [Bool.and_eq_true] at hk; exact ho k hk.1) b0 (by omega) j0 j1 (by rw [j3]; omega) (by rw [j3, oc, hs]; rfl) (by rw [← hR]; exact hb2)
          rw [j3, ← hR] at this
          rw [this]
          show (1 : Int) - 1 ≤ 0
          omega
  have sw : sumF (fun b => sumF (fun c => ivB (s c) * fwA W H al b c) N) N = sumF (fun c => ivB (s c) * sumF (fun b => fwA W H al b c) N) N := by
    rw [sumF_sw (F := fun b c => ivB (s c) * fwA W H al b c)]
    exact sumF_eq N (fun c _ _ => sumF_mul N)
  have lo : sumF (fun c => ivB (s c) * sumF (fun b => fwA W H al b c) N) N ≤ sumF (fun c => ivB (s c)) N := by
    refine sumF_le N (fun c c0 c1 => ?_)
    cases hs : s c with
    | false => show 0 * _ ≤ 0; rw [Int.zero_mul]; omega
    | true =>
      rw [f4 c c0 (by omega), if_neg (fun e => by rw [e, sz] at hs; cases hs)]
      have := ivB_in (pq c)
      show 1 * _ ≤ 1
      rw [Int.one_mul]; omega
  rw [cnt_sm]
  omega
