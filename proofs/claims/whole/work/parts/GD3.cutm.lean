/-! ===== no way more: a cut as small as the flow ===== -/
theorem fl_cut {W H a z l : Int} {op pq : Int → Bool} {al : Int → Int} {N : Nat} {x : Ct} (h : wh2 W H) (hN : (N : Int) = W * H) (a0 : 0 ≤ a) (a1 : a < W * H) (z0 : 0 ≤ z) (z1 : z < W * H) (az : a ≠ z) (nz : ∀ d, 0 ≤ d → d < 4 → nbC W H a d ≠ z) (F : FlA W H a z op pq al N l) (ho : ∀ k, op k = true → 0 ≤ k ∧ k < W * H) (B : BFx W H op pq al a x) (hz : x.1 (2 * z) = -1)
    (cl : ∀ i : Int, 0 ≤ i → i < x.2.2 → ∀ u, arcR W H op pq al (x.2.1 i) u → x.1 u ≠ -1) : ∃ s : Int → Bool, (∀ c, s c = true → (0 ≤ c ∧ c < W * H) ∧ c ≠ z ∧ c ≠ a) ∧ cnt s N ≤ l ∧ flI W H (fun k => op k && !s k) a 36 z = false := by
  have hm := wh_mul h
  obtain ⟨b1, b2, b3, b4, b5, b6, b7, r, b8⟩ := B
  obtain ⟨f1, f2, f3, f4, f5⟩ := F
  obtain ⟨I, hI⟩ : ∃ I : Int → Bool, I = fun c => decide (x.1 (2 * c) ≠ -1) := ⟨_, rfl⟩
  obtain ⟨O, hO⟩ : ∃ O : Int → Bool, O = fun c => decide (x.1 (2 * c + 1) ≠ -1) := ⟨_, rfl⟩
  have It : ∀ c, I c = true ↔ x.1 (2 * c) ≠ -1 := fun c => by rw [hI]; exact decide_eq_true_iff
  have Ot : ∀ c, O c = true ↔ x.1 (2 * c + 1) ≠ -1 := fun c => by rw [hO]; exact decide_eq_true_iff
  have Iz : I z = false := by rw [hI]; exact decide_eq_false (fun t => t hz)
  have Oa : O a = true := (Ot a).mpr b4
  have V : ∀ v, 0 ≤ v → v < 72 → x.1 v ≠ -1 → v ≠ 2 * a → ∀ u, arcR W H op pq al v u → x.1 u ≠ -1 := by
    intro v v0 v1 hv va u hu
    obtain ⟨i, i0, i1, i2⟩ := b7 v v0 v1 hv va
    exact cl i i0 i1 u (by rw [i2]; exact hu)
  have fn : ∀ b c, 0 ≤ b → b < W * H → 0 ≤ fwA W H al b c := fun b c b0 b1 => by
    rcases fwA_in (c := c) h f1 b0 b1 with e | e <;> omega
  have inA : ∀ b, 0 ≤ b → b < W * H → fwA W H al b a = 0 := by
    intro b b0 b1
    have g := sumF_ge (f := fun b => fwA W H al b a) (x := b) N (fun k k0 k1 => fn k a k0 (by omega)) b0 (by omega)
    rw [f4 a a0 a1, if_neg az, f3] at g
    have g2 : fwA W H al b a ≤ 0 + 0 := g
    have := fn b a b0 b1
    omega
  have k1 : ∀ c, 0 ≤ c → c < W * H → I c = true → pq c = false → O c = true := by
    intro c c0 c1 hi hp
    by_cases e : c = a
    · rw [e]; exact Oa
    · exact (Ot c).mpr (V (2 * c) (by omega) (by omega) ((It c).mp hi) (by omega) _ (Or.inl ⟨c, c0, c1, rfl, rfl, hp⟩))
  have k2 : ∀ c, 0 ≤ c → c < W * H → O c = true → pq c = true → I c = true := by
    intro c c0 c1 hi hp
    exact (It c).mpr (V (2 * c + 1) (by omega) (by omega) ((Ot c).mp hi) (by omega) _ (Or.inr (Or.inl ⟨c, c0, c1, rfl, rfl, hp⟩)))
  have k3 : ∀ b c, 0 ≤ b → b < W * H → 0 ≤ c → c < W * H → b ≠ c → O b = true → op c = true → sdT W H b c ≠ -1 → I c = false → fwA W H al b c = 1 := by
    intro b c b0 b1 c0 c1 bc hb hc hs hi
    by_cases e : al (sdT W H b c) = 0
    · have := (It c).mpr (V (2 * b + 1) (by omega) (by omega) ((Ot b).mp hb) (by omega) _ (Or.inr (Or.inr (Or.inl ⟨b, c, b0, b1, c0, c1, bc, rfl, rfl, hc, hs, e⟩))))
      rw [hi] at this; cases this
    · exact fwA_1 h f1 b0 b1 hs e
  have k4 : ∀ b c, 0 ≤ b → b < W * H → 0 ≤ c → c < W * H → I c = true → sdT W H b c ≠ -1 → al (sdT W H b c) ≠ 0 → O b = true := by
    intro b c b0 b1 c0 c1 hi hs hn
    by_cases e : c = a
    · have g1 := inA b b0 b1
      rw [e] at hs hn
      rw [fwA_1 h f1 b0 b1 hs hn] at g1
      omega
    · have bc : b ≠ c := by
        intro t
        obtain ⟨j, j0, j1, j2, j3⟩ := sdT_x b0 hs
        have := nb_in h b0 b1 (d := j) (by rw [j3]; omega)
        omega
      exact (Ot b).mpr (V (2 * c) (by omega) (by omega) ((It c).mp hi) (by omega) _ (Or.inr (Or.inr (Or.inr ⟨b, c, b0, b1, c0, c1, bc, rfl, rfl, hs, hn⟩))))
  obtain ⟨G, hG⟩ : ∃ G : Int → Int → Int, G = fun b c => (ivB (O b) - ivB (I c)) * fwA W H al b c := ⟨_, rfl⟩
  have Gn : ∀ b c, 0 ≤ b → b < W * H → 0 ≤ c → c < W * H → 0 ≤ G b c := by
    intro b c b0 b1 c0 c1
    rw [hG]
    show 0 ≤ (ivB (O b) - ivB (I c)) * fwA W H al b c
    rcases fwA_in (c := c) h f1 b0 b1 with e | ⟨e, e2, e3⟩
    · rw [e, Int.mul_zero]; omega
    · rw [e, Int.mul_one]
      cases hi : I c with
      | true =>
        rw [k4 b c b0 b1 c0 c1 hi e2 e3]
        show (0 : Int) ≤ 1 - 1
        omega
      | false =>
        have := ivB_in (O b)
        show 0 ≤ ivB (O b) - 0
        omega
  obtain ⟨P2, hP⟩ : ∃ P2 : Int → Int, P2 = fun c => ivB (pq c) * (ivB (I c) - ivB (O c)) := ⟨_, rfl⟩
  have Pn : ∀ c, 0 ≤ c → c < W * H → 0 ≤ P2 c ∧ (I c = true → O c = false → P2 c = 1) := by
    intro c c0 c1
    rw [hP]
    show 0 ≤ ivB (pq c) * (ivB (I c) - ivB (O c)) ∧ (I c = true → O c = false → ivB (pq c) * (ivB (I c) - ivB (O c)) = 1)
    cases hp : pq c with
    | false =>
      refine ⟨by show (0 : Int) ≤ 0 * _; rw [Int.zero_mul]; omega, fun hi hx => ?_⟩
      rw [k1 c c0 c1 hi hp] at hx; cases hx
    | true =>
      refine ⟨?_, fun hi hx => by rw [hi, hx]; rfl⟩
      show (0 : Int) ≤ 1 * _
      rw [Int.one_mul]
      have := ivB_in (I c)
      cases hx : O c with
      | false => show 0 ≤ ivB (I c) - 0; omega
      | true =>
        rw [k2 c c0 c1 hx hp]
        show (0 : Int) ≤ 1 - 1
        omega
  have tot : sumF (fun b => sumF (fun c => G b c) N) N + sumF P2 N = l := by
    have e1 : sumF (fun b => sumF (fun c => G b c) N) N = sumF (fun c => ivB (O c) * sumF (fun d => fwA W H al c d) N - ivB (I c) * sumF (fun b => fwA W H al b c) N) N := by
      rw [hG]
      exact sum_id (f := fun c => ivB (O c)) (g := fun c => ivB (I c)) (F := fwA W H al) N
    rw [e1, ← sumF_add, ← sum_pt (l := l) (N := N) a0 (by omega)]
    refine sumF_eq N (fun c c0 c1 => ?_)
    rw [f4 c c0 (by omega), f5 c c0 (by omega), hP]
    show ivB (O c) * (ivB (pq c) + _) - ivB (I c) * (ivB (pq c) + _) + ivB (pq c) * (ivB (I c) - ivB (O c)) = _
    rw [Int.mul_add, Int.mul_add, Int.mul_sub, Int.mul_comm (ivB (O c)) (ivB (pq c)), Int.mul_comm (ivB (I c)) (ivB (pq c))]
    generalize ivB (pq c) * ivB (O c) = u1
    generalize ivB (pq c) * ivB (I c) = u2
    by_cases ea : c = a
    · rw [ea, Oa, if_pos rfl, if_neg az]
      show u1 + 1 * l - (u2 + ivB (I a) * 0) + (u2 - u1) = l
      rw [Int.mul_zero]
      omega
    · rw [if_neg ea]
      by_cases ez : c = z
      · rw [ez, Iz, if_pos rfl]
        show u1 + ivB (O z) * 0 - (u2 + 0 * l) + (u2 - u1) = 0
        rw [Int.mul_zero, Int.zero_mul]
        omega
      · rw [if_neg ez, Int.mul_zero, Int.mul_zero]
        omega
  obtain ⟨cG, hc⟩ : ∃ cG : Int → Int, cG = fun c => sumF (fun b => G b c) N := ⟨_, rfl⟩
  have cn : ∀ c, 0 ≤ c → c < W * H → 0 ≤ cG c := fun c c0 c1 => by
    rw [hc]; exact sumF_nn N (fun k k0 k1 => Gn k c k0 (by omega) c0 c1)
  have cge : ∀ b c, 0 ≤ b → b < W * H → 0 ≤ c → c < W * H → G b c ≤ cG c := fun b c b0 b1 c0 c1 => by
    rw [hc]; exact sumF_ge (f := fun b => G b c) N (fun k k0 k1 => Gn k c k0 (by omega) c0 c1) b0 (by omega)
  obtain ⟨s, hs⟩ : ∃ s : Int → Bool, s = fun c => decide (0 ≤ c ∧ c < W * H) && ((I c && !O c) || (decide (c ≠ z) && decide (1 ≤ cG c)) || decide (1 ≤ G c z)) := ⟨_, rfl⟩
  have st : ∀ c, s c = true ↔ (0 ≤ c ∧ c < W * H) ∧ ((I c = true ∧ O c = false) ∨ (c ≠ z ∧ 1 ≤ cG c) ∨ 1 ≤ G c z) := by
    intro c
    rw [hs]
    simp only [Bool.and_eq_true, Bool.or_eq_true, decide_eq_true_iff, Bool.not_eq_true']
    rw [or_assoc]
  have Gz : ∀ b, 0 ≤ b → b < W * H → 1 ≤ G b z → b ≠ z ∧ b ≠ a := by
    intro b b0 b1 hg
    have fz : fwA W H al b z ≠ 0 := by
      intro e
      rw [hG] at hg
      have : (1 : Int) ≤ (ivB (O b) - ivB (I z)) * fwA W H al b z := hg
      rw [e, Int.mul_zero] at this
      omega
    rcases fwA_in (c := z) h f1 b0 b1 with e | ⟨e, e2, e3⟩
    · exact absurd e fz
    · obtain ⟨j, j0, j1, j2, j3⟩ := sdT_x b0 e2
      have ni := nb_in h b0 b1 (d := j) (by rw [j3]; omega)
      refine ⟨by omega, fun t => ?_⟩
      rw [t] at j3
      exact nz j j0 j1 j3
  have cGa : cG a = 0 := by
    rw [hc]
    refine sumF_0 N (fun k k0 k1 => ?_)
    rw [hG]
    show (ivB (O k) - ivB (I a)) * fwA W H al k a = 0
    rw [inA k k0 (by omega), Int.mul_zero]
  refine ⟨s, fun c hsc => ?_, ?_, ?_⟩
  · obtain ⟨r1, r2⟩ := (st c).mp hsc
    refine ⟨r1, ?_⟩
    rcases r2 with ⟨hi, hx⟩ | ⟨hcz, hg⟩ | hg
    · exact ⟨fun e => (by rw [e, Iz] at hi; cases hi), fun e => (by rw [e, Oa] at hx; cases hx)⟩
    · exact ⟨hcz, fun e => (by rw [e, cGa] at hg; omega)⟩
    · exact Gz c r1.1 r1.2 hg
  · have le : sumF (fun c => ivB (s c)) N ≤ sumF (fun c => P2 c + (if c = z then 0 else cG c) + G c z) N := by
      refine sumF_le N (fun c c0 c1 => ?_)
      have p := Pn c c0 (by omega)
      have q := cn c c0 (by omega)
      have g := Gn c z c0 (by omega) z0 z1
      have w : (0 : Int) ≤ (if c = z then 0 else cG c) := by
        by_cases e : c = z
        · rw [if_pos e]; omega
        · rw [if_neg e]; exact q
      cases hsc : s c with
      | false => show 0 ≤ _; omega
      | true =>
        show 1 ≤ _
        rcases ((st c).mp hsc).2 with ⟨hi, hx⟩ | ⟨hcz, hg⟩ | hg
        · have := p.2 hi hx
          omega
        · rw [if_neg hcz] at w ⊢
          omega
        · omega
    rw [sumF_add, sumF_add, sumF_one (x := z) (f := cG) N (fun k _ _ kn => if_neg kn), if_pos ⟨z0, by omega⟩, if_pos rfl] at le
    have e2 : sumF cG N = sumF (fun b => sumF (fun c => G b c) N) N := by
      rw [hc]; exact (sumF_sw (F := G) N).symm
    have e3 : sumF (fun c => G c z) N = cG z := by rw [hc]
    rw [cnt_sm]
    omega
  · have inv : ∀ (n : Nat) (k : Int), flI W H (fun k => op k && !s k) a n k = true → O k = true ∧ s k = false ∧ k ≠ z := by
      intro n
      induction n with
      | zero =>
        intro k hk
        have hk' : (decide (k = a) && (op k && !s k)) = true := hk
        rw [Bool.and_eq_true, Bool.and_eq_true, Bool.not_eq_true', decide_eq_true_iff] at hk'
        obtain ⟨e, _, e2⟩ := hk'
        exact ⟨by rw [e]; exact Oa, e2, by rw [e]; exact az⟩
      | succ n ih =>
        intro k hk
        have hk' : ((flI W H (fun k => op k && !s k) a n k || nbB W H (flI W H (fun k => op k && !s k) a n) k) && (op k && !s k)) = true := hk
        rw [Bool.and_eq_true, Bool.and_eq_true, Bool.not_eq_true', Bool.or_eq_true] at hk'
        obtain ⟨e, ok, sk⟩ := hk'
        have kr := ho k ok
        rcases e with e | e
        · exact ih k e
        · rw [nbB_iff kr.1 kr.2] at e
          obtain ⟨d, d4, dn, db⟩ := e
          obtain ⟨ob, sb, bz⟩ := ih _ db
          have ni := nb_in h kr.1 kr.2 dn
          have sy := nb_sym h kr.1 kr.2 (by omega) (by omega) dn
          generalize nbC W H k d = b at *
          have sd : sdT W H b k ≠ -1 := by
            have := sdT_j (j := 3 - (d : Int)) h ni.1 (by omega) (by omega) (by rw [sy]; omega)
            rw [sy] at this
            omega
          have g1 : I k = false → G b k = 1 := by
            intro hi
            have f1 := k3 b k ni.1 ni.2.1 kr.1 kr.2 ni.2.2 ob ok sd hi
            rw [hG]
            show (ivB (O b) - ivB (I k)) * fwA W H al b k = 1
            rw [f1, ob, hi]
            rfl
          have kz : k ≠ z := by
            intro t
            have := g1 (by rw [t]; exact Iz)
            rw [t] at this
            have sb' := (st b).mpr ⟨⟨ni.1, ni.2.1⟩, Or.inr (Or.inr (by omega))⟩
            rw [sb] at sb'; cases sb'
          refine ⟨?_, sk, kz⟩
          cases hi : I k with
          | true =>
            cases hx : O k with
            | true => rfl
            | false =>
              have sk' := (st k).mpr ⟨kr, Or.inl ⟨hi, hx⟩⟩
              rw [sk] at sk'; cases sk'
          | false =>
            have g := g1 hi
            have g2 := cge b k ni.1 ni.2.1 kr.1 kr.2
            have sk' := (st k).mpr ⟨kr, Or.inr (Or.inl ⟨kz, by omega⟩)⟩
            rw [sk] at sk'; cases sk'
    cases hf : flI W H (fun k => op k && !s k) a 36 z with
    | false => rfl
    | true => exact absurd rfl (inv 36 z hf).2.2
theorem ls_fl {W H a z : Int} {op : Int → Bool} {N : Nat} (h : wh2 W H) (hN : (N : Int) = W * H) (a0 : 0 ≤ a) (a1 : a < W * H) (z0 : 0 ≤ z) (z1 : z < W * H) (az : a ≠ z) (nz : ∀ d, 0 ≤ d → d < 4 → nbC W H a d ≠ z) (ho : ∀ k, op k = true → 0 ≤ k ∧ k < W * H) : ∀ (m : Nat) (pq : Int → Bool) (al g f : Int → Int) (l : Int), FlA W H a z op pq al N l →
    ∃ v : Nat, lsR W H op a z m pq al g f = v ∧ v ≤ m ∧ (∃ pq' al', FlA W H a z op pq' al' N (l + v)) ∧ (v < m → ∃ s : Int → Bool, (∀ c, s c = true → (0 ≤ c ∧ c < W * H) ∧ c ≠ z ∧ c ≠ a) ∧ cnt s N ≤ l + v ∧ flI W H (fun k => op k && !s k) a 36 z = false) := by
  intro m
  induction m with
  | zero =>
    intro pq al g f l F
    exact ⟨0, rfl, Nat.le_refl _, ⟨pq, al, by rw [show l + ((0 : Nat) : Int) = l by omega]; exact F⟩, fun t => by omega⟩
  | succ m ih =>
    intro pq al g f l F
    have B := fnI_B (z := z) h (fn0_B (op := op) (pq := pq) (al := al) (g := g) (f := f) h a0 a1) 72
    simp only [lsR]
    generalize fnI W H pq op al z (fn0 a g f) 72 = x at B ⊢
    by_cases hz : x.1 (2 * z) = -1
    · rw [if_pos hz]
      refine ⟨0, rfl, Nat.zero_le _, ⟨pq, al, by rw [show l + ((0 : Nat) : Int) = l by omega]; exact F⟩, fun _ => ?_⟩
      rw [show l + ((0 : Nat) : Int) = l by omega]
      have l72 := B.1.1.2.2.1
      exact fl_cut h hN a0 a1 z0 z1 az nz F ho B.1 hz (fun i i0 i1 => B.2 hz i i0 (by omega) i1)
    · rw [if_neg hz]
      obtain ⟨v, v1, v2, v3, v4⟩ := ih _ _ x.1 x.2.1 (l + 1) (fl_aug h hN z0 z1 az F B.1 hz)
      refine ⟨v + 1, by rw [v1]; omega, by omega, ?_, fun hv => ?_⟩
      · rw [show l + ((v + 1 : Nat) : Int) = l + 1 + v by omega]; exact v3
      · rw [show l + ((v + 1 : Nat) : Int) = l + 1 + v by omega]; exact v4 (by omega)
theorem fl_nil {W H a z : Int} {op : Int → Bool} {g : Int → Int} {N : Nat} (h : wh2 W H) (hN : (N : Int) = W * H) : FlA W H a z op (fun _ => false) (fil g 144 0) N 0 := by
  have e : ∀ j, 0 ≤ j → j < 144 → fil g 144 0 j = 0 := fun j j0 j1 => by unfold fil; rw [if_pos ⟨j0, j1⟩]
  have f0 : ∀ b c, 0 ≤ b → b < W * H → fwA W H (fil g 144 0) b c = 0 := by
    intro b c b0 b1
    unfold fwA
    rcases sdT_in (c := b) (n := c) h (by omega) b1 with x | ⟨x, y, _⟩
    · rw [if_pos x]
    · rw [if_neg (by omega)]; exact e _ x y
  refine ⟨fun j j0 j1 => Or.inl (e j j0 j1), fun b c b0 b1 c0 c1 hs hn => ?_, rfl, fun c c0 c1 => ?_, fun c c0 c1 => ?_⟩
  · rcases sdT_in (c := b) (n := c) h (by omega) b1 with x | ⟨x, y, _⟩
    · exact absurd x hs
    · exact absurd (e _ x y) hn
  · rw [sumF_0 N (fun k k0 k1 => f0 k c k0 (by omega))]
    show (0 : Int) = 0 + (if c = z then 0 else 0)
    by_cases t : c = z
    · rw [if_pos t]; rfl
    · rw [if_neg t]; rfl
  · rw [sumF_0 N (fun k k0 k1 => f0 c k c0 c1)]
    show (0 : Int) = 0 + (if c = a then 0 else 0)
    by_cases t : c = a
    · rw [if_pos t]; rfl
    · rw [if_neg t]; rfl
/-! ===== the reference's words ===== -/
theorem fl_sq {K : Int → Int} {B w z : Int} {q : Int → Bool} (hv : kV K B) (w' : wzI K w z) : flI (K 1) (K 2) (fun k => opB (kdK K 7) (K 1 * K 2) k && !q k) (K (79 + w)) 36 z = true ↔ dD (K 1) (K 2) (shC (prK K w) q) (K (79 + w)) (nK K) z < far := by
  obtain ⟨h, w5, a, _⟩ := kV_w hv w'.1.1 w'.1.2
  have hm := wh_mul h
  refine flI_dD h (shC_cs (prK_cs (w := w) hv.1 hv.2.1)) (nK_c hv.1) (fun k hk => ?_) (fun k k0 k1 => ?_) a.1 a.2 w'.2.1 w'.2.2
  · rw [Bool.and_eq_true] at hk
    have := of_decide_eq_true hk.1; exact ⟨this.1, this.2.1⟩
  · have pw := prK_w (w := w) hv.2.1 k0 (show k < 36 by omega)
    show ((opB (kdK K 7) (K 1 * K 2) k && !q k) = true) ↔ (if q k = true then -1 else prK K w k) ≠ -1
    cases hq : q k with
    | true => rw [if_pos rfl]; simp
    | false =>
      rw [if_neg Bool.false_ne_true, Bool.not_false, Bool.and_true]
      constructor
      · intro hk e2; exact (of_decide_eq_true hk).2.2 (pw.mp e2)
      · intro hk; exact decide_eq_true ⟨k0, k1, fun e2 => hk (pw.mpr e2)⟩
theorem shS_q {K : Int → Int} {w t : Int} {N : Nat} : ∀ (l : Nat) (p : Int → Bool) (f : Int), shS K w t l p f → ∃ q : Int → Bool, (∀ c, q c = true → p c = true ∨ (c ≠ t ∧ c ≠ K (79 + w))) ∧ cnt q N ≤ cnt p N + l ∧ ¬ dD (K 1) (K 2) (shC (prK K w) q) (K (79 + w)) (nK K) t < far
  | 0, p, _, h => ⟨p, fun _ hc => Or.inl hc, by omega, h⟩
  | l + 1, p, f, h => by
    obtain ⟨n, _, _, n1, n2, n3⟩ := h
    obtain ⟨q, q1, q2, q3⟩ := shS_q (N := N) l _ _ n3
    refine ⟨q, fun c hc => ?_, ?_, q3⟩
    · rcases q1 c hc with e | e
      · rw [Bool.or_eq_true, decide_eq_true_iff] at e
        rcases e with e | e
        · exact Or.inl e
        · exact Or.inr (by rw [e]; exact ⟨n1, n2⟩)
      · exact Or.inr e
    · have : cnt (fun k => p k || decide (k = n)) N ≤ cnt p N + 1 := by
        rw [cnt_sm, cnt_sm, sumF_one (x := n) (f := fun k => ivB (p k)) N (fun k _ _ kn => by show ivB (p k || decide (k = n)) = ivB (p k); rw [decide_eq_false kn, Bool.or_false])]
        have i1 := ivB_in (p n)
        have i2 := ivB_in (p n || decide (n = n))
        by_cases e : 0 ≤ n ∧ n < N
        · rw [if_pos e]; omega
        · rw [if_neg e]; omega
      omega
theorem shS_mo {K : Int → Int} {w t : Int} : ∀ (l : Nat) (p : Int → Bool) (f : Int), shS K w t l p (f + 1) → shS K w t l p f
  | 0, _, _, h => h
  | l + 1, _, _, ⟨n, n0, n1, n2, n3, n4⟩ => ⟨n, by omega, n1, n2, n3, n4⟩
theorem cnt_mo {q : Int → Bool} : ∀ (m f : Nat), cnt q f ≤ cnt q (f + m)
  | 0, f => Int.le_refl _
  | m + 1, f => by
    have a := cnt_mo (q := q) m f
    show cnt q f ≤ cnt q (f + m) + (if q ((f + m : Nat) : Int) then 1 else 0)
    by_cases e : q ((f + m : Nat) : Int) = true
    · rw [if_pos e]; omega
    · rw [if_neg e]; omega
theorem q_shS {K : Int → Int} {w t : Int} {N : Nat} {q : Int → Bool} (hN : (N : Int) = K 1 * K 2) (hq : ∀ c, q c = true → (0 ≤ c ∧ c < K 1 * K 2) ∧ c ≠ t ∧ c ≠ K (79 + w)) (hf : ¬ dD (K 1) (K 2) (shC (prK K w) q) (K (79 + w)) (nK K) t < far) : ∀ (m f : Nat), f + m = N → ∀ l : Nat, (l : Int) + cnt q f = cnt q N → shS K w t l (fun k => q k && decide (k < (f : Int))) f := by
  intro m
  induction m with
  | zero =>
    intro f hm l hl
    have e : f = N := by omega
    subst e
    have l0 : l = 0 := by omega
    subst l0
    have fe : (fun k => q k && decide (k < (f : Int))) = q := by
      funext k
      cases hk : q k with
      | false => rfl
      | true => rw [decide_eq_true (by have := hq k hk; omega)]; rfl
    show ¬ dD (K 1) (K 2) (shC (prK K w) (fun k => q k && decide (k < (f : Int)))) (K (79 + w)) (nK K) t < far
    rw [fe]
    exact hf
  | succ m ih =>
    intro f hm l hl
    have ih' := ih (f + 1) (by omega)
    have mo := cnt_mo (q := q) m (f + 1)
    rw [show f + 1 + m = N by omega] at mo
    have c1 : cnt q (f + 1) = cnt q f + (if q (f : Int) then 1 else 0) := rfl
    cases hk : q (f : Int) with
    | true =>
      rw [hk, if_pos rfl] at c1
      obtain ⟨l', e⟩ : ∃ l', l = l' + 1 := ⟨l - 1, by omega⟩
      subst e
      have s := ih' l' (by omega)
      have fe : (fun k => (q k && decide (k < (f : Int))) || decide (k = (f : Int))) = (fun k => q k && decide (k < ((f + 1 : Nat) : Int))) := by
        funext k
        by_cases e : k = f
        · rw [e, hk, decide_eq_true (rfl : (f : Int) = f), decide_eq_true (show (f : Int) < ((f + 1 : Nat) : Int) by omega), Bool.or_true]; rfl
        · rw [decide_eq_false e, Bool.or_false]
          by_cases g : k < f
          · rw [decide_eq_true g, decide_eq_true (show k < ((f + 1 : Nat) : Int) by omega)]
          · rw [decide_eq_false g, decide_eq_false (show ¬ k < ((f + 1 : Nat) : Int) by omega)]
      have qf := hq _ hk
      refine ⟨f, Int.le_refl _, by omega, qf.2.1, qf.2.2, ?_⟩
      show shS K w t l' (fun k => (q k && decide (k < (f : Int))) || decide (k = (f : Int))) ((f : Int) + 1)
      rw [fe]
      exact s
    | false =>
      rw [hk, if_neg Bool.false_ne_true] at c1
      have s := ih' l (by omega)
      have fe : (fun k => q k && decide (k < (f : Int))) = (fun k => q k && decide (k < ((f + 1 : Nat) : Int))) := by
        funext k
        by_cases e : k = f
        · rw [e, hk]; rfl
        · by_cases g : k < f
          · rw [decide_eq_true g, decide_eq_true (show k < ((f + 1 : Nat) : Int) by omega)]
          · rw [decide_eq_false g, decide_eq_false (show ¬ k < ((f + 1 : Nat) : Int) by omega)]
      refine shS_mo l _ _ ?_
      rw [fe]
      exact s
/-- the class finds the least cut -/
theorem sh_lsQ {K : Int → Int} {B w z : Int} {g f1 f2 : Int → Int} (hv : kV K B) (w' : wzI K w z) (ne : K (79 + w) ≠ z) (nb : ¬ ∃ e : Int, 0 ≤ e ∧ e < 4 ∧ nbC (K 1) (K 2) (K (79 + w)) e = z) : ∃ l : Nat, l ≤ 4 ∧ (∀ j : Nat, j < l → ¬ shS K w z j (fun _ => false) 0) ∧ (l < 4 → shS K w z l (fun _ => false) 0) ∧ lsR (K 1) (K 2) (opB (kdK K 7) (K 1 * K 2)) (K (79 + w)) z 4 (fun _ => false) (fil g 144 0) f1 f2 = l := by
  obtain ⟨h, w5, ra, hw⟩ := kV_w hv w'.1.1 w'.1.2
  have hm := wh_mul h
  have hN := nK_c hv.1
  have ho : ∀ k, opB (kdK K 7) (K 1 * K 2) k = true → 0 ≤ k ∧ k < K 1 * K 2 := fun k hk => by
    have := of_decide_eq_true hk; exact ⟨this.1, this.2.1⟩
  have oa : opB (kdK K 7) (K 1 * K 2) (K (79 + w)) = true := decide_eq_true ⟨ra.1, ra.2, hw⟩
  obtain ⟨v, v1, v2, ⟨pq', al', v3⟩, v4⟩ := ls_fl (N := nK K) h hN ra.1 ra.2 w'.2.1 w'.2.2 ne (fun d d0 d1 e => nb ⟨d, d0, d1, e⟩) ho 4 (fun _ => false) (fil g 144 0) f1 f2 0 (fl_nil h hN)
  have c0 : cnt (fun _ => false) (nK K) = 0 := by
    rw [cnt_sm]; exact sumF_0 _ (fun _ _ _ => rfl)
  have low : ∀ q : Int → Bool, q (K (79 + w)) = false → q z = false → ¬ dD (K 1) (K 2) (shC (prK K w) q) (K (79 + w)) (nK K) z < far → (v : Int) ≤ cnt q (nK K) := by
    intro q qa qz hd
    have fb : flI (K 1) (K 2) (fun k => opB (kdK K 7) (K 1 * K 2) k && !q k) (K (79 + w)) 36 z = false := by
      cases hf : flI (K 1) (K 2) (fun k => opB (kdK K 7) (K 1 * K 2) k && !q k) (K (79 + w)) 36 z with
      | false => rfl
      | true => exact absurd ((fl_sq hv w').mp hf) hd
    have := fl_low h hN ra.1 ra.2 ne v3 ho oa qa qz fb
    omega
  refine ⟨v, v2, fun j hj hs => ?_, fun hv4 => ?_, v1⟩
  · obtain ⟨q, q1, q2, q3⟩ := shS_q (N := nK K) j _ _ hs
    have ff : ∀ c, (c = z ∨ c = K (79 + w)) → q c = false := by
      intro c hc
      cases hq : q c with
      | false => rfl
      | true =>
        rcases q1 c hq with e | e
        · cases e
        · rcases hc with hc | hc
          · exact absurd hc e.1
          · exact absurd hc e.2
    have := low q (ff _ (Or.inr rfl)) (ff _ (Or.inl rfl)) q3
    omega
  · obtain ⟨s, s1, s2, s3⟩ := v4 hv4
    have ff : ∀ c, (c = z ∨ c = K (79 + w)) → s c = false := by
      intro c hc
      cases hq : s c with
      | false => rfl
      | true =>
        have e := (s1 c hq).2
        rcases hc with hc | hc
        · exact absurd hc e.1
        · exact absurd hc e.2
    have hd : ¬ dD (K 1) (K 2) (shC (prK K w) s) (K (79 + w)) (nK K) z < far := fun t => by
      rw [(fl_sq hv w').mpr t] at s3; cases s3
    have lo := low s (ff _ (Or.inr rfl)) (ff _ (Or.inl rfl)) hd
    have q := q_shS hN s1 hd (nK K) 0 (Nat.zero_add _) v (by show (v : Int) + 0 = _; omega)
    have fe : (fun k => s k && decide (k < ((0 : Nat) : Int))) = (fun _ => false) := by
      funext k
      cases hk : s k with
      | false => rfl
      | true => rw [decide_eq_false (by have := (s1 k hk).1; omega)]; rfl
    rw [fe] at q
    exact q
