/-! ===== what lines tell, as it can be ===== -/
def tV (K : Int → Int) : Prop := tW K ∧ (0 ≤ K 4 ∧ K 4 ≤ 9) ∧ K 6 = 0 ∧ (0 ≤ K 92 ∧ K 92 < 32) ∧ (∀ w e, 0 ≤ w → w < 5 → 0 ≤ e → e < K (93 + w) → (0 ≤ K (98 + 4 * w + e) ∧ K (98 + 4 * w + e) < K 1 * K 2) ∧ 0 ≤ K (118 + 4 * w + e) ∧ K (118 + 4 * w + e) ≤ 999) ∧ scW K 999 ∧ 0 ≤ K 0
theorem tV_cg {K K' : Int → Int} (h : ∀ j, j ≠ 5 → j ≠ 0 → j < 138 → K' j = K j) (h0 : 0 ≤ K' 0) (hv : tV K) : tV K' := by
  obtain ⟨⟨a1, a2, a3, a4⟩, b1, b2, b3, b4, ⟨c1, c2, c3, c4, c5⟩, b6⟩ := hv
  have q1 := h 1 (by omega) (by omega) (by omega)
  have q2 := h 2 (by omega) (by omega) (by omega)
  have q3 := h 3 (by omega) (by omega) (by omega)
  refine ⟨⟨by rw [q1]; exact a1, by rw [q2]; exact a2, by rw [q3]; exact a3, fun w w0 w1 => by rw [h (93 + w) (by omega) (by omega) (by omega)]; exact a4 w w0 w1⟩, by rw [h 4 (by omega) (by omega) (by omega)]; exact b1, by rw [h 6 (by omega) (by omega) (by omega)]; exact b2, by rw [h 92 (by omega) (by omega) (by omega)]; exact b3, fun w e w0 w1 x0 x1 => ?_, ⟨fun k k0 k1 => ?_, fun w w0 w1 => ?_, ?_, ?_, ?_⟩, h0⟩
  · rw [h (93 + w) (by omega) (by omega) (by omega)] at x1
    have := a4 w w0 w1
    rw [h (98 + 4 * w + e) (by omega) (by omega) (by omega), h (118 + 4 * w + e) (by omega) (by omega) (by omega), q1, q2]
    exact b4 w e w0 w1 x0 x1
  · rw [h (7 + k) (by omega) (by omega) (by omega), h (43 + k) (by omega) (by omega) (by omega), q1, q2]
    exact c1 k k0 k1
  · rw [q3] at w1
    have hw := wh_mul (W := K 1) (H := K 2) ⟨a1.1, a1.2, a2.1, a2.2⟩
    have d := c2 w w0 w1
    rw [h (79 + w) (by omega) (by omega) (by omega), h (84 + w) (by omega) (by omega) (by omega), h (7 + K (79 + w)) (by omega) (by omega) (by omega), q1, q2]
    exact d
  · rw [h 89 (by omega) (by omega) (by omega)]; exact c3
  · rw [h 90 (by omega) (by omega) (by omega)]; exact c4
  · rw [h 91 (by omega) (by omega) (by omega)]; exact c5
theorem tV_put {K : Int → Int} {c kd t : Int} (hv : tV K) (c0 : 0 ≤ c) (c1 : c < K 1 * K 2) (hk : (1 ≤ kd ∧ kd ≤ 3 ∧ 1 ≤ t ∧ t ≤ 60) ∨ (kd = 4 ∧ t = 0 ∧ K 3 = 0)) : tV (fu (fu K (7 + c) kd) (43 + c) t) := by
  obtain ⟨⟨a1, a2, a3, a4⟩, b1, b2, b3, b4, ⟨s1, s2, s3, s4, s5⟩, b6⟩ := hv
  have hw := wh_mul (W := K 1) (H := K 2) ⟨a1.1, a1.2, a2.1, a2.2⟩
  have o : ∀ j, j ≠ 7 + c → j ≠ 43 + c → fu (fu K (7 + c) kd) (43 + c) t j = K j := fun j h1 h2 => by rw [fu_n h2, fu_n h1]
  have q1 := o 1 (by omega) (by omega)
  have q2 := o 2 (by omega) (by omega)
  have q3 := o 3 (by omega) (by omega)
  refine ⟨⟨by rw [q1]; exact a1, by rw [q2]; exact a2, by rw [q3]; exact a3, fun w w0 w1 => by rw [o (93 + w) (by omega) (by omega)]; exact a4 w w0 w1⟩, by rw [o 4 (by omega) (by omega)]; exact b1, by rw [o 6 (by omega) (by omega)]; exact b2, by rw [o 92 (by omega) (by omega)]; exact b3, fun w e w0 w1 x0 x1 => ?_, ⟨fun k k0 k1 => ?_, fun w w0 w1 => ?_, ?_, ?_, ?_⟩, by rw [o 0 (by omega) (by omega)]; exact b6⟩
  · rw [o (93 + w) (by omega) (by omega)] at x1
    rw [o (98 + 4 * w + e) (by omega) (by omega), o (118 + 4 * w + e) (by omega) (by omega), q1, q2]
    exact b4 w e w0 w1 x0 x1
  · rw [q1, q2]
    by_cases e : k = c
    · subst e
      rw [fu_s, show fu (fu K (7 + k) kd) (43 + k) t (7 + k) = kd by rw [fu_n (by omega), fu_s]]
      omega
    · rw [o (7 + k) (by omega) (by omega), o (43 + k) (by omega) (by omega)]
      exact s1 k k0 k1
  · rw [q3] at w1
    have d := s2 w w0 w1
    rw [o (79 + w) (by omega) (by omega), o (84 + w) (by omega) (by omega), q1, q2]
    refine ⟨d.1, ?_, d.2.2⟩
    by_cases e : K (79 + w) = c
    · rw [e, fu_n (by omega), fu_s]
      omega
    · rw [o (7 + K (79 + w)) (by omega) (by omega)]
      exact d.2.1
  · rw [o 89 (by omega) (by omega)]; exact s3
  · rw [o 90 (by omega) (by omega)]; exact s4
  · rw [o 91 (by omega) (by omega)]; exact s5
theorem oo_32 : ∀ w : Fin 5, ∀ u : Fin 32, 0 ≤ oo (u.val : Int) (sl 1 (w.val : Int)) ∧ oo (u.val : Int) (sl 1 (w.val : Int)) < 32 := by decide
theorem oo_in {u w : Int} (u0 : 0 ≤ u) (u1 : u < 32) (w0 : 0 ≤ w) (w1 : w < 5) : 0 ≤ oo u (sl 1 w) ∧ oo u (sl 1 w) < 32 := by
  have := oo_32 ⟨w.toNat, by omega⟩ ⟨u.toNat, by omega⟩
  simp only [] at this
  rwa [show ((u.toNat : Nat) : Int) = u by omega, show ((w.toNat : Nat) : Int) = w by omega] at this
theorem tV_fr {K : Int → Int} (hv : tV K) (h5 : K 3 < 5) : tV (fu K 92 (oo (K 92) (sl 1 (K 3)))) := by
  obtain ⟨⟨a1, a2, a3, a4⟩, b1, b2, b3, b4, ⟨s1, s2, s3, s4, s5⟩, b6⟩ := hv
  have o : ∀ j, j ≠ 92 → fu K 92 (oo (K 92) (sl 1 (K 3))) j = K j := fun j h1 => fu_n h1
  have hw := wh_mul (W := K 1) (H := K 2) ⟨a1.1, a1.2, a2.1, a2.2⟩
  have q1 := o 1 (by omega)
  have q2 := o 2 (by omega)
  have q3 := o 3 (by omega)
  refine ⟨⟨by rw [q1]; exact a1, by rw [q2]; exact a2, by rw [q3]; exact a3, fun w w0 w1 => by rw [o (93 + w) (by omega)]; exact a4 w w0 w1⟩, by rw [o 4 (by omega)]; exact b1, by rw [o 6 (by omega)]; exact b2, by rw [fu_s]; exact oo_in b3.1 b3.2 a3.1 h5, fun w e w0 w1 x0 x1 => ?_, ⟨fun k k0 k1 => ?_, fun w w0 w1 => ?_, ?_, ?_, ?_⟩, by rw [o 0 (by omega)]; exact b6⟩
  · rw [o (93 + w) (by omega)] at x1
    rw [o (98 + 4 * w + e) (by omega), o (118 + 4 * w + e) (by omega), q1, q2]
    exact b4 w e w0 w1 x0 x1
  · rw [o (7 + k) (by omega), o (43 + k) (by omega), q1, q2]
    exact s1 k k0 k1
  · rw [q3] at w1
    have d := s2 w w0 w1
    rw [o (79 + w) (by omega), o (84 + w) (by omega), o (7 + K (79 + w)) (by omega), q1, q2]
    exact d
  · rw [o 89 (by omega)]; exact s3
  · rw [o 90 (by omega)]; exact s4
  · rw [o 91 (by omega)]; exact s5
theorem tV_wk {K : Int → Int} {z a : Int} (hv : tV K) (h5 : K 3 < 5) (z0 : 0 ≤ z) (z1 : z < K 1 * K 2) (hz : K (7 + z) ≠ 4) (a0 : 0 ≤ a) (a9 : a ≤ 999) : tV (wkS K (K 3) z a) := by
  obtain ⟨⟨a1, a2, a3, a4⟩, b1, b2, b3, b4, ⟨s1, s2, s3, s4, s5⟩, b6⟩ := hv
  have hw := wh_mul (W := K 1) (H := K 2) ⟨a1.1, a1.2, a2.1, a2.2⟩
  have o : ∀ j, j ≠ 79 + K 3 → j ≠ 84 + K 3 → j ≠ 3 → wkS K (K 3) z a j = K j := fun j h1 h2 h3 => by unfold wkS; rw [fu_n h3, fu_n h2, fu_n h1]
  have q1 := o 1 (by omega) (by omega) (by omega)
  have q2 := o 2 (by omega) (by omega) (by omega)
  have q3 : wkS K (K 3) z a 3 = K 3 + 1 := fu_s
  refine ⟨⟨by rw [q1]; exact a1, by rw [q2]; exact a2, by rw [q3]; omega, fun w w0 w1 => by rw [o (93 + w) (by omega) (by omega) (by omega)]; exact a4 w w0 w1⟩, by rw [o 4 (by omega) (by omega) (by omega)]; exact b1, by rw [o 6 (by omega) (by omega) (by omega)]; exact b2, by rw [o 92 (by omega) (by omega) (by omega)]; exact b3, fun w e w0 w1 x0 x1 => ?_, ⟨fun k k0 k1 => ?_, fun w w0 w1 => ?_, ?_, ?_, ?_⟩, by rw [o 0 (by omega) (by omega) (by omega)]; exact b6⟩
  · rw [o (93 + w) (by omega) (by omega) (by omega)] at x1
    rw [o (98 + 4 * w + e) (by omega) (by omega) (by omega), o (118 + 4 * w + e) (by omega) (by omega) (by omega), q1, q2]
    exact b4 w e w0 w1 x0 x1
  · rw [o (7 + k) (by omega) (by omega) (by omega), o (43 + k) (by omega) (by omega) (by omega), q1, q2]
    exact s1 k k0 k1
  · rw [q3] at w1
    by_cases e : w = K 3
    · subst e
      have x1 : wkS K (K 3) z a (79 + K 3) = z := by unfold wkS; rw [fu_n (by omega), fu_n (by omega), fu_s]
      have x2 : wkS K (K 3) z a (84 + K 3) = a := by unfold wkS; rw [fu_n (by omega), fu_s]
      rw [x1, x2, o (7 + z) (by omega) (by omega) (by omega), q1, q2]
      exact ⟨⟨z0, z1⟩, hz, a0, a9⟩
    · have d := s2 w w0 (by omega)
      rw [o (79 + w) (by omega) (by omega) (by omega), o (84 + w) (by omega) (by omega) (by omega), o (7 + K (79 + w)) (by omega) (by omega) (by omega), q1, q2]
      exact d
  · rw [o 89 (by omega) (by omega) (by omega)]; exact s3
  · rw [o 90 (by omega) (by omega) (by omega)]; exact s4
  · rw [o 91 (by omega) (by omega) (by omega)]; exact s5
theorem tV_er {K : Int → Int} {w c b : Int} (hv : tV K) (w0 : 0 ≤ w) (w1 : w < 5) (h4 : K (93 + w) < 4) (c0 : 0 ≤ c) (c1 : c < K 1 * K 2) (t0 : 0 ≤ b) (t9 : b ≤ 999) : tV (erS K w c b) := by
  obtain ⟨⟨a1, a2, a3, a4⟩, b1, b2, b3, b4, ⟨s1, s2, s3, s4, s5⟩, b6⟩ := hv
  have hw := wh_mul (W := K 1) (H := K 2) ⟨a1.1, a1.2, a2.1, a2.2⟩
  have q := a4 w w0 w1
  have o : ∀ j, j ≠ 98 + 4 * w + K (93 + w) → j ≠ 118 + 4 * w + K (93 + w) → j ≠ 93 + w → erS K w c b j = K j := fun j h1 h2 h3 => by unfold erS; rw [fu_n h3, fu_n h2, fu_n h1]
  have q1 := o 1 (by omega) (by omega) (by omega)
  have q2 := o 2 (by omega) (by omega) (by omega)
  have q3 := o 3 (by omega) (by omega) (by omega)
  have qw : erS K w c b (93 + w) = K (93 + w) + 1 := fu_s
  refine ⟨⟨by rw [q1]; exact a1, by rw [q2]; exact a2, by rw [q3]; exact a3, fun v v0 v1 => ?_⟩, by rw [o 4 (by omega) (by omega) (by omega)]; exact b1, by rw [o 6 (by omega) (by omega) (by omega)]; exact b2, by rw [o 92 (by omega) (by omega) (by omega)]; exact b3, fun v e v0 v1 x0 x1 => ?_, ⟨fun k k0 k1 => ?_, fun v v0 v1 => ?_, ?_, ?_, ?_⟩, by rw [o 0 (by omega) (by omega) (by omega)]; exact b6⟩
  · by_cases e : v = w
    · rw [e, qw]; omega
    · rw [o (93 + v) (by omega) (by omega) (by omega)]; exact a4 v v0 v1
  · rw [q1, q2]
    by_cases e2 : v = w
    · subst e2
      rw [qw] at x1
      by_cases e3 : e = K (93 + v)
      · subst e3
        have x2 : erS K v c b (98 + 4 * v + K (93 + v)) = c := by unfold erS; rw [fu_n (by omega), fu_n (by omega), fu_s]
        have x3 : erS K v c b (118 + 4 * v + K (93 + v)) = b := by unfold erS; rw [fu_n (by omega), fu_s]
        rw [x2, x3]
        exact ⟨⟨c0, c1⟩, t0, t9⟩
      · rw [o (98 + 4 * v + e) (by omega) (by omega) (by omega), o (118 + 4 * v + e) (by omega) (by omega) (by omega)]
        exact b4 v e v0 v1 x0 (by omega)
    · rw [o (93 + v) (by omega) (by omega) (by omega)] at x1
      have q5 := a4 v v0 v1
      rw [o (98 + 4 * v + e) (by omega) (by omega) (by omega), o (118 + 4 * v + e) (by omega) (by omega) (by omega)]
      exact b4 v e v0 v1 x0 x1
  · rw [o (7 + k) (by omega) (by omega) (by omega), o (43 + k) (by omega) (by omega) (by omega), q1, q2]
    exact s1 k k0 k1
  · rw [q3] at v1
    have d := s2 v v0 v1
    rw [o (79 + v) (by omega) (by omega) (by omega), o (84 + v) (by omega) (by omega) (by omega), o (7 + K (79 + v)) (by omega) (by omega) (by omega), q1, q2]
    exact d
  · rw [o 89 (by omega) (by omega) (by omega)]; exact s3
  · rw [o 90 (by omega) (by omega) (by omega)]; exact s4
  · rw [o 91 (by omega) (by omega) (by omega)]; exact s5
theorem tV_4 {K : Int → Int} {v : Int} (hv : tV K) (v0 : 0 ≤ v) (v1 : v ≤ 9) : tV (fu K 4 v) := by
  obtain ⟨⟨a1, a2, a3, a4⟩, b1, b2, b3, b4, ⟨s1, s2, s3, s4, s5⟩, b6⟩ := hv
  have hw := wh_mul (W := K 1) (H := K 2) ⟨a1.1, a1.2, a2.1, a2.2⟩
  have o : ∀ j, j ≠ 4 → fu K 4 v j = K j := fun j h1 => fu_n h1
  have q1 := o 1 (by omega)
  have q2 := o 2 (by omega)
  have q3 := o 3 (by omega)
  refine ⟨⟨by rw [q1]; exact a1, by rw [q2]; exact a2, by rw [q3]; exact a3, fun w w0 w1 => by rw [o (93 + w) (by omega)]; exact a4 w w0 w1⟩, by rw [fu_s]; exact ⟨v0, v1⟩, by rw [o 6 (by omega)]; exact b2, by rw [o 92 (by omega)]; exact b3, fun w e w0 w1 x0 x1 => ?_, ⟨fun k k0 k1 => ?_, fun w w0 w1 => ?_, ?_, ?_, ?_⟩, by rw [o 0 (by omega)]; exact b6⟩
  · rw [o (93 + w) (by omega)] at x1
    rw [o (98 + 4 * w + e) (by omega), o (118 + 4 * w + e) (by omega), q1, q2]
    exact b4 w e w0 w1 x0 x1
  · rw [o (7 + k) (by omega), o (43 + k) (by omega), q1, q2]
    exact s1 k k0 k1
  · rw [q3] at w1
    have d := s2 w w0 w1
    rw [o (79 + w) (by omega), o (84 + w) (by omega), o (7 + K (79 + w)) (by omega), q1, q2]
    exact d
  · rw [o 89 (by omega)]; exact s3
  · rw [o 90 (by omega)]; exact s4
  · rw [o 91 (by omega)]; exact s5
/-! the lines -/
def iL (n : Int) (s : Ps) : Prop := pO n s ∧ tV (pK s) ∧ kO s ∧ pD s = 0
def jL (n : Int) (s s' : Ps) : Prop := iL n s' ∧ (pB s' = 0 → pB s = 0 ∧ pG s ≤ pG s') ∧ pK s' 0 = pK s 0
theorem iL_mv {n : Int} {s t : Ps} (h : iL n s) (hm : Mv n s t) : iL n t := by
  obtain ⟨h1, h2, h3, h4⟩ := h
  refine ⟨hm.1, by rw [hm.2.1]; exact h2, ⟨by rw [hm.2.1]; exact h3.1, fun e => ?_⟩, by rw [hm.2.2.1]; exact h4⟩
  have := hm.2.2.2 e
  rw [hm.2.1]
  have := h3.2 this.1
  omega
theorem jL_mv {n : Int} {s t : Ps} (h : iL n s) (hm : Mv n s t) : jL n s t := ⟨iL_mv h hm, hm.2.2.2, by rw [hm.2.1]⟩
theorem jL_st {n : Int} {s t : Ps} {K : Int → Int} (h : iL n s) (hm : Mv n s t) (hK : tV K) (h5 : K 5 = pK s 5) (h0 : K 0 = pK s 0) : jL n s (stK2 K t) := by
  have a := iL_mv h hm
  refine ⟨⟨a.1, hK, ⟨by show 0 ≤ K 5; rw [h5]; exact h.2.2.1.1, fun e => ?_⟩, a.2.2.2⟩, hm.2.2.2, h0⟩
  show K 5 ≤ pG t
  have := a.2.2.1.2 e
  rw [hm.2.1] at this
  rw [h5]; exact this
theorem hdg_J {f : Int → Int} {n : Int} {s : Ps} (hf : tpOk f n) (h : iL n s) : jL n s (hdg f n s) := by
  have hc := cel_in hf h.1 h.2.1.1
  have a1 := h.2.1.1.1
  have a2 := h.2.1.1.2.1
  have hw := wh_mul (W := pK s 1) (H := pK s 2) ⟨a1.1, a1.2, a2.1, a2.2⟩
  unfold hdg
  dsimp only
  have m2 : Mv n s (if kdW f (celP f n s).2 = 0 then blm 2 (celP f n s).2 else rdOn f n (celP f n s).2) := by
    split
    · exact Mv_t hc.1 (Mv_bl hc.1.1 (by omega) (by omega))
    · exact Mv_t hc.1 (Mv_rd hf hc.1.1)
  have key : pB (if kdW f (celP f n s).2 = 0 then blm 2 (celP f n s).2 else rdOn f n (celP f n s).2) = 0 → kdW f (celP f n s).2 ≠ 0 := by
    intro e e2
    rw [if_pos e2] at e
    exact (blm_O hc.1.1 (k := 2) (by omega) (by omega)).2 e
  generalize (if kdW f (celP f n s).2 = 0 then blm 2 (celP f n s).2 else rdOn f n (celP f n s).2) = t at *
  have m3 := Mv_t m2 (Mv_nm (lo := 1) (hi := 60) hf m2.1)
  have v3 := nmb_v (f := f) (lo := 1) (hi := 60) m2.1
  have hb3 := (Mv_nm (f := f) (lo := 1) (hi := 60) hf m2.1).2.2.2
  by_cases e : pB (nmb f n 1 60 t).2 = 0
  · rw [if_pos e]
    have vv := v3.1 e
    have hkd := kdW_in (f := f) (s := (celP f n s).2)
    have hk0 := key (hb3 e).1
    have hKt := m3.2.1
    refine jL_st h m3 ?_ ?_ ?_
    · rw [hKt]
      exact tV_put h.2.1 hc.2.1 hc.2.2 (Or.inl ⟨by omega, by omega, vv.1, vv.2.1⟩)
    · rw [fu_n (by omega), fu_n (by omega), hKt]
    · rw [fu_n (by omega), fu_n (by omega), hKt]
  · rw [if_neg e]
    exact jL_mv h m3
theorem wal_J {f : Int → Int} {n : Int} {s : Ps} (hf : tpOk f n) (h : iL n s) : jL n s (wal f n s) := by
  unfold wal
  dsimp only
  have m1 : Mv n s (rdO f n (if 0 < pK s 3 then blm 2 s else s)) := by
    split
    · exact Mv_t (Mv_bl h.1 (by omega) (by omega)) (Mv_rO hf (Mv_bl h.1 (by omega) (by omega)).1)
    · exact Mv_rO hf h.1
  have key : pB (rdO f n (if 0 < pK s 3 then blm 2 s else s)) = 0 → pK s 3 ≤ 0 := by
    intro e
    rw [rdO_B] at e
    by_cases e2 : 0 < pK s 3
    · rw [if_pos e2] at e
      exact absurd e (blm_O h.1 (by omega) (by omega)).2
    · omega
  generalize rdO f n (if 0 < pK s 3 then blm 2 s else s) = s1 at *
  by_cases e : pB s1 = 0
  · rw [if_pos e]
    have h3 := key e
    have hc := cel_in hf m1.1 (iL_mv h m1).2.1.1
    have hK := m1.2.1
    rw [hK] at hc
    have m2 := Mv_t m1 hc.1
    have a1 := h.2.1.1.1
    have a2 := h.2.1.1.2.1
    have a3 := h.2.1.1.2.2.1
    have hw := wh_mul (W := pK s 1) (H := pK s 2) ⟨a1.1, a1.2, a2.1, a2.2⟩
    by_cases e2 : pB (celP f n s1).2 = 0
    · rw [if_pos e2]
      refine jL_st h m2 ?_ ?_ ?_
      · rw [m2.2.1]
        exact tV_put h.2.1 hc.2.1 hc.2.2 (Or.inr ⟨rfl, rfl, by omega⟩)
      · rw [fu_n (by omega), fu_n (by omega), m2.2.1]
      · rw [fu_n (by omega), fu_n (by omega), m2.2.1]
    · rw [if_neg e2]
      exact jL_mv h m2
  · rw [if_neg e]
    exact jL_mv h m1
theorem ern_J {f : Int → Int} {n : Int} {s : Ps} (hf : tpOk f n) (h : iL n s) : jL n s (ern f n s) := by
  unfold ern
  dsimp only
  have a4 := h.2.1.1.2.2.2
  have a3 := h.2.1.1.2.2.1
  have m1 : Mv n s (if pB s = 0 ∧ pT s = 2 ∧ pV s < pK s 3 ∧ pK s (93 + pV s) = 4 then blm 4 s else s) := by
    split
    · exact Mv_bl h.1 (by omega) (by omega)
    · exact Mv_r h.1
  have key : pB (if pB s = 0 ∧ pT s = 2 ∧ pV s < pK s 3 ∧ pK s (93 + pV s) = 4 then blm 4 s else s) = 0 → ¬ (pB s = 0 ∧ pT s = 2 ∧ pV s < pK s 3 ∧ pK s (93 + pV s) = 4) ∧ (if pB s = 0 ∧ pT s = 2 ∧ pV s < pK s 3 ∧ pK s (93 + pV s) = 4 then blm 4 s else s) = s := by
    intro e
    by_cases e2 : pB s = 0 ∧ pT s = 2 ∧ pV s < pK s 3 ∧ pK s (93 + pV s) = 4
    · rw [if_pos e2] at e
      exact absurd e (blm_O h.1 (by omega) (by omega)).2
    · exact ⟨e2, by rw [if_neg e2]⟩
  generalize (if pB s = 0 ∧ pT s = 2 ∧ pV s < pK s 3 ∧ pK s (93 + pV s) = 4 then blm 4 s else s) = s1 at *
  have mw := Mv_nm (lo := 0) (hi := pK s 3 - 1) hf m1.1
  have vw := nmb_v (f := f) (lo := 0) (hi := pK s 3 - 1) m1.1
  generalize nmb f n 0 (pK s 3 - 1) s1 = w at *
  have m2 := Mv_t m1 mw
  have hc := cel_in hf m2.1 (iL_mv h m2).2.1.1
  rw [m2.2.1] at hc
  generalize celP f n w.2 = c at *
  have mb := Mv_nm (lo := 0) (hi := 999) hf hc.1.1
  have vb := nmb_v (f := f) (lo := 0) (hi := 999) hc.1.1
  generalize nmb f n 0 999 c.2 = b at *
  have m3 := Mv_t m2 (Mv_t hc.1 mb)
  split
  · rename_i e
    have b0 := (mb.2.2.2 e).1
    have b1 := (hc.1.2.2.2 b0).1
    have b2 := (mw.2.2.2 b1).1
    have v := vw.1 b1
    have vv := vb.1 e
    have kk := key b2
    rw [kk.2] at v
    have hs0 : pB s = 0 := (m1.2.2.2 b2).1
    have q := a4 w.1 (by omega) (by omega)
    have hlt : pK s (93 + w.1) < 4 := by
      have : pK s (93 + w.1) ≠ 4 := fun e4 => kk.1 ⟨hs0, v.2.2.2.1, by omega, by rw [← v.2.2.1]; exact e4⟩
      omega
    refine jL_st h m3 ?_ ?_ ?_
    · rw [m3.2.1]
      exact tV_er h.2.1 (by omega) (by omega) hlt hc.2.1 hc.2.2 vv.1 vv.2.1
    · unfold erS
      rw [m3.2.1, fu_n (by omega), fu_n (by omega), fu_n (by omega)]
    · unfold erS
      rw [m3.2.1, fu_n (by omega), fu_n (by omega), fu_n (by omega)]
  · exact jL_mv h m3
