/-! ===== sums; a flow and its sides ===== -/
def sumF (f : Int → Int) : Nat → Int
  | 0 => 0
  | n + 1 => sumF f n + f n
theorem sumF_eq {f g : Int → Int} : ∀ n : Nat, (∀ k : Int, 0 ≤ k → k < n → f k = g k) → sumF f n = sumF g n
  | 0, _ => rfl
  | n + 1, h => by
    show sumF f n + f n = sumF g n + g n
    rw [sumF_eq n (fun k k0 k1 => h k k0 (by omega)), h n (by omega) (by omega)]
theorem sumF_le {f g : Int → Int} : ∀ n : Nat, (∀ k : Int, 0 ≤ k → k < n → f k ≤ g k) → sumF f n ≤ sumF g n
  | 0, _ => Int.le_refl _
  | n + 1, h => by
    have a := sumF_le n (fun k k0 k1 => h k k0 (by omega))
    have b := h n (by omega) (by omega)
    show sumF f n + f n ≤ sumF g n + g n
    omega
theorem sumF_add {f g : Int → Int} : ∀ n : Nat, sumF (fun k => f k + g k) n = sumF f n + sumF g n
  | 0 => rfl
  | n + 1 => by
    have a := sumF_add (f := f) (g := g) n
    show sumF (fun k => f k + g k) n + (f n + g n) = sumF f n + f n + (sumF g n + g n)
    omega
theorem sumF_sub {f g : Int → Int} : ∀ n : Nat, sumF (fun k => f k - g k) n = sumF f n - sumF g n
  | 0 => rfl
  | n + 1 => by
    have a := sumF_sub (f := f) (g := g) n
    show sumF (fun k => f k - g k) n + (f n - g n) = sumF f n + f n - (sumF g n + g n)
    omega
theorem sumF_mul {f : Int → Int} {x : Int} : ∀ n : Nat, sumF (fun k => x * f k) n = x * sumF f n
  | 0 => by show (0 : Int) = x * 0; rw [Int.mul_zero]
  | n + 1 => by
    show sumF (fun k => x * f k) n + x * f n = x * (sumF f n + f n)
    rw [sumF_mul n, Int.mul_add]
theorem sumF_0 {f : Int → Int} : ∀ n : Nat, (∀ k : Int, 0 ≤ k → k < n → f k = 0) → sumF f n = 0
  | 0, _ => rfl
  | n + 1, h => by
    show sumF f n + f n = 0
    rw [sumF_0 n (fun k k0 k1 => h k k0 (by omega)), h n (by omega) (by omega)]
    rfl
theorem sumF_nn {f : Int → Int} : ∀ n : Nat, (∀ k : Int, 0 ≤ k → k < n → 0 ≤ f k) → 0 ≤ sumF f n
  | 0, _ => Int.le_refl _
  | n + 1, h => by
    have a := sumF_nn n (fun k k0 k1 => h k k0 (by omega))
    have b := h n (by omega) (by omega)
    show 0 ≤ sumF f n + f n
    omega
theorem sumF_ge {f : Int → Int} {x : Int} : ∀ n : Nat, (∀ k : Int, 0 ≤ k → k < n → 0 ≤ f k) → 0 ≤ x → x < n → f x ≤ sumF f n
  | 0, _, x0, x1 => by omega
  | n + 1, h, x0, x1 => by
    have a := sumF_nn n (fun k k0 k1 => h k k0 (by omega))
    have b := h n (by omega) (by omega)
    show f x ≤ sumF f n + f n
    by_cases e : x = n
    · rw [e]; omega
    · have := sumF_ge n (fun k k0 k1 => h k k0 (by omega)) x0 (by omega)
      omega
theorem sumF_sw {F : Int → Int → Int} {m : Nat} : ∀ n : Nat, sumF (fun b => sumF (fun c => F b c) m) n = sumF (fun c => sumF (fun b => F b c) n) m
  | 0 => by
    show 0 = sumF (fun c => sumF (fun b => F b c) 0) m
    exact (sumF_0 m fun _ _ _ => rfl).symm
  | n + 1 => by
    show sumF (fun b => sumF (fun c => F b c) m) n + sumF (fun c => F n c) m = sumF (fun c => sumF (fun b => F b c) n + F n c) m
    rw [sumF_add, sumF_sw n]
theorem sumF_one {f g : Int → Int} {x : Int} : ∀ n : Nat, (∀ k : Int, 0 ≤ k → k < n → k ≠ x → g k = f k) → sumF g n = sumF f n + (if 0 ≤ x ∧ x < n then g x - f x else 0)
  | 0, _ => by
    rw [if_neg (by omega)]
    rfl
  | n + 1, h => by
    have a := sumF_one n (fun k k0 k1 => h k k0 (by omega))
    show sumF g n + g n = sumF f n + f n + _
    by_cases e : x = n
    · rw [if_neg (by omega)] at a
      rw [if_pos (by omega), a, e]
      omega
    · have b := h n (by omega) (by omega) (fun t => e t.symm)
      by_cases e2 : 0 ≤ x ∧ x < n
      · rw [if_pos e2] at a
        rw [if_pos (by omega)]
        omega
      · rw [if_neg e2] at a
        rw [if_neg (by omega)]
        omega
def ivB (b : Bool) : Int := if b = true then 1 else 0
theorem ivB_in (b : Bool) : 0 ≤ ivB b ∧ ivB b ≤ 1 := by cases b <;> decide
theorem cnt_sm {p : Int → Bool} : ∀ n : Nat, cnt p n = sumF (fun k => ivB (p k)) n
  | 0 => rfl
  | n + 1 => by
    show cnt p n + (if p n then 1 else 0) = sumF (fun k => ivB (p k)) n + ivB (p n)
    rw [cnt_sm n]
    rfl
theorem sdI_4 {W H b c : Int} : sdI W H b c 4 = if nbC W H b 0 = c then 4 * b + 0 else if nbC W H b 1 = c then 4 * b + 1 else if nbC W H b 2 = c then 4 * b + 2 else if nbC W H b 3 = c then 4 * b + 3 else -1 := rfl
theorem sdT_x {W H b c : Int} (b0 : 0 ≤ b) (hs : sdT W H b c ≠ -1) : ∃ j : Int, 0 ≤ j ∧ j < 4 ∧ sdT W H b c = 4 * b + j ∧ nbC W H b j = c := by
  have e : sdT W H b c = sdI W H b c 4 := by unfold sdT; rw [if_neg (by omega)]
  rw [e, sdI_4] at hs
  rw [e, sdI_4]
  by_cases e0 : nbC W H b 0 = c
  · rw [if_pos e0]; exact ⟨0, by omega, by omega, rfl, e0⟩
  rw [if_neg e0] at hs ⊢
  by_cases e1 : nbC W H b 1 = c
  · rw [if_pos e1]; exact ⟨1, by omega, by omega, rfl, e1⟩
  rw [if_neg e1] at hs ⊢
  by_cases e2 : nbC W H b 2 = c
  · rw [if_pos e2]; exact ⟨2, by omega, by omega, rfl, e2⟩
  rw [if_neg e2] at hs ⊢
  by_cases e3 : nbC W H b 3 = c
  · rw [if_pos e3]; exact ⟨3, by omega, by omega, rfl, e3⟩
  rw [if_neg e3] at hs
  exact absurd rfl hs
theorem sdT_j {W H b j : Int} (h : wh2 W H) (b0 : 0 ≤ b) (j0 : 0 ≤ j) (j1 : j < 4) (hn : nbC W H b j ≠ -1) : sdT W H b (nbC W H b j) = 4 * b + j := by
  have ne : sdT W H b (nbC W H b j) ≠ -1 := by
    unfold sdT
    rw [if_neg (by omega), sdI_4]
    have hj : j = 0 ∨ j = 1 ∨ j = 2 ∨ j = 3 := by omega
    by_cases e0 : nbC W H b 0 = nbC W H b j
    · rw [if_pos e0]; omega
    rw [if_neg e0]
    by_cases e1 : nbC W H b 1 = nbC W H b j
    · rw [if_pos e1]; omega
    rw [if_neg e1]
    by_cases e2 : nbC W H b 2 = nbC W H b j
    · rw [if_pos e2]; omega
    rw [if_neg e2]
    by_cases e3 : nbC W H b 3 = nbC W H b j
    · rw [if_pos e3]; omega
    rcases hj with e | e | e | e
    · exact absurd (by rw [e]) e0
    · exact absurd (by rw [e]) e1
    · exact absurd (by rw [e]) e2
    · exact absurd (by rw [e]) e3
  obtain ⟨i, i0, i1, i2, i3⟩ := sdT_x b0 ne
  have := nb_inj h i0 i1 j0 j1 (by rw [i3]; exact hn) i3
  rw [i2, this]
def fwA (W H : Int) (al : Int → Int) (b c : Int) : Int := if sdT W H b c = -1 then 0 else al (sdT W H b c)
theorem fwA_in {W H b c : Int} {al : Int → Int} (h : wh2 W H) (ha : alIn al) (b0 : 0 ≤ b) (b1 : b < W * H) : fwA W H al b c = 0 ∨ (fwA W H al b c = 1 ∧ sdT W H b c ≠ -1 ∧ al (sdT W H b c) ≠ 0) := by
  unfold fwA
  by_cases e : sdT W H b c = -1
  · rw [if_pos e]; exact Or.inl rfl
  · rw [if_neg e]
    rcases sdT_in (c := b) (n := c) h (by omega) b1 with x | ⟨x, y, _⟩
    · exact absurd x e
    · rcases ha _ x y with t | t
      · exact Or.inl t
      · exact Or.inr ⟨t, e, by omega⟩
theorem fwA_1 {W H b c : Int} {al : Int → Int} (h : wh2 W H) (ha : alIn al) (b0 : 0 ≤ b) (b1 : b < W * H) (hs : sdT W H b c ≠ -1) (hn : al (sdT W H b c) ≠ 0) : fwA W H al b c = 1 := by
  unfold fwA
  rw [if_neg hs]
  rcases sdT_in (c := b) (n := c) h (by omega) b1 with x | ⟨x, y, _⟩
  · exact absurd x hs
  · rcases ha _ x y with t | t
    · exact absurd t hn
    · exact t
theorem fw_up {W H b0 c0 v : Int} {al : Int → Int} {N : Nat} (hN : (N : Int) = W * H) (b0n : 0 ≤ b0) (b1 : b0 < W * H) (c0n : 0 ≤ c0) (c1 : c0 < W * H) (hs : sdT W H b0 c0 ≠ -1) :
    (∀ c, sumF (fun b => fwA W H (fu al (sdT W H b0 c0) v) b c) N = sumF (fun b => fwA W H al b c) N + if c = c0 then v - al (sdT W H b0 c0) else 0) ∧
    (∀ b, 0 ≤ b → sumF (fun c => fwA W H (fu al (sdT W H b0 c0) v) b c) N = sumF (fun c => fwA W H al b c) N + if b = b0 then v - al (sdT W H b0 c0) else 0) := by
  have pt : ∀ b c, 0 ≤ b → ¬ (b = b0 ∧ c = c0) → fwA W H (fu al (sdT W H b0 c0) v) b c = fwA W H al b c := by
    intro b c bn hne
    unfold fwA
    by_cases e : sdT W H b c = -1
    · rw [if_pos e, if_pos e]
    · rw [if_neg e, if_neg e, fu_n]
      intro e2
      obtain ⟨j, j0, j1, j2, j3⟩ := sdT_x bn e
      obtain ⟨i, i0, i1, i2, i3⟩ := sdT_x b0n hs
      have eb : b = b0 := by omega
      have ej : j = i := by omega
      exact hne ⟨eb, by rw [← j3, ← i3, eb, ej]⟩
  have at0 : fwA W H (fu al (sdT W H b0 c0) v) b0 c0 = v := by unfold fwA; rw [if_neg hs, fu_s]
  have at1 : fwA W H al b0 c0 = al (sdT W H b0 c0) := by unfold fwA; rw [if_neg hs]
  constructor
  · intro c
    by_cases e : c = c0
    · rw [e, if_pos rfl, sumF_one (x := b0) (f := fun b => fwA W H al b c0) N (fun k k0 k1 kn => pt k c0 k0 (fun t => kn t.1)), if_pos ⟨b0n, by omega⟩, at0, at1]
    · rw [if_neg e, Int.add_zero]
      exact sumF_eq N (fun k k0 k1 => pt k c k0 (fun t => e t.2))
  · intro b bn
    by_cases e : b = b0
    · rw [e, if_pos rfl, sumF_one (x := c0) (f := fun c => fwA W H al b0 c) N (fun k k0 k1 kn => pt b0 k b0n (fun t => kn t.2)), if_pos ⟨c0n, by omega⟩, at0, at1]
    · rw [if_neg e, Int.add_zero]
      exact sumF_eq N (fun k k0 k1 => pt b k bn (fun t => e t.1))
/-! ===== the search's invariant ===== -/
/-- an arc that has room left -/
def arcR (W H : Int) (op pq : Int → Bool) (al : Int → Int) (y x : Int) : Prop :=
  (∃ c, 0 ≤ c ∧ c < W * H ∧ y = 2 * c ∧ x = 2 * c + 1 ∧ pq c = false) ∨ (∃ c, 0 ≤ c ∧ c < W * H ∧ y = 2 * c + 1 ∧ x = 2 * c ∧ pq c = true) ∨
  (∃ b c, 0 ≤ b ∧ b < W * H ∧ 0 ≤ c ∧ c < W * H ∧ b ≠ c ∧ y = 2 * b + 1 ∧ x = 2 * c ∧ op c = true ∧ sdT W H b c ≠ -1 ∧ al (sdT W H b c) = 0) ∨
  (∃ b c, 0 ≤ b ∧ b < W * H ∧ 0 ≤ c ∧ c < W * H ∧ b ≠ c ∧ y = 2 * c ∧ x = 2 * b + 1 ∧ sdT W H b c ≠ -1 ∧ al (sdT W H b c) ≠ 0)
def BFx (W H : Int) (op pq : Int → Bool) (al : Int → Int) (a : Int) (x : Ct) : Prop :=
  ctIn (W * H) x ∧ clo x ∧ x.1 (2 * a) ≠ -1 ∧ x.1 (2 * a + 1) ≠ -1 ∧ x.2.2 + 1 = cnt (fun v => decide (x.1 v ≠ -1)) 72 ∧ (∀ i, 0 ≤ i → i < x.2.2 → x.2.1 i ≠ 2 * a) ∧ (∀ v, 0 ≤ v → v < 72 → x.1 v ≠ -1 → v ≠ 2 * a → ∃ i, 0 ≤ i ∧ i < x.2.2 ∧ x.2.1 i = v) ∧
  ∃ r : Int → Int, ∀ v, 0 ≤ v → v < 72 → x.1 v ≠ -1 → v ≠ 2 * a → 0 ≤ r v ∧ r v < x.2.2 ∧ (v = 2 * a + 1 ∨ (arcR W H op pq al (x.1 v) v ∧ x.1 v ≠ 2 * a ∧ r (x.1 v) < r v))
def exC (x x' : Ct) : Prop := (∀ v, x.1 v ≠ -1 → x'.1 v ≠ -1) ∧ x.2.2 ≤ x'.2.2 ∧ ∀ i, 0 ≤ i → i < x.2.2 → x'.2.1 i = x.2.1 i
theorem exC_r {x : Ct} : exC x x := ⟨fun _ h => h, Int.le_refl _, fun _ _ _ => rfl⟩
theorem exC_t {x y z : Ct} (h : exC x y) (g : exC y z) : exC x z := ⟨fun v hv => g.1 v (h.1 v hv), Int.le_trans h.2.1 g.2.1, fun i i0 i1 => (g.2.2 i i0 (by have := h.2.1; omega)).trans (h.2.2 i i0 i1)⟩
theorem visC_B {W H a nd u : Int} {op pq : Int → Bool} {al : Int → Int} {x : Ct} (h : wh2 W H) (hb : BFx W H op pq al a x) (u0 : 0 ≤ u) (u1 : u < 2 * (W * H)) (n0 : 0 ≤ nd) (n1 : nd < 2 * (W * H)) (hn : x.1 nd ≠ -1) (na : nd ≠ 2 * a) (ha : arcR W H op pq al nd u) : BFx W H op pq al a (visC x u nd) ∧ exC x (visC x u nd) ∧ (visC x u nd).1 u ≠ -1 := by
  have hm := wh_mul h
  by_cases hc : x.1 u = -1
  · obtain ⟨b1, b2, b3, b4, b5, b6, b7, r, b8⟩ := hb
    have lt : x.2.2 < 72 := by
      have z1 := cnt_lt (p := fun v => decide (x.1 v ≠ -1)) (q := fun _ => true) (j := u.toNat) rfl (by
        show decide (x.1 ((u.toNat : Nat) : Int) ≠ -1) = false
        rw [show ((u.toNat : Nat) : Int) = u by omega]
        exact decide_eq_false (fun t => t hc)) 72 (fun _ _ _ => rfl) (by omega)
      have z2 := (cnt_in (p := fun _ => true) 72).2
      omega
    have ci := visC_in (nd := u) (by' := nd) b1 u0 u1 n0 n1
    have cc := visC_clo (nd := u) (by' := nd) b2 b1.2.1 hn n0
    have e : visC x u nd = (fu x.1 u nd, fu x.2.1 x.2.2 u, x.2.2 + 1) := by unfold visC; rw [if_pos ⟨hc, lt⟩]
    rw [e] at ci cc ⊢
    have unn : u ≠ nd := fun t => hn (by rw [← t]; exact hc)
    have u2 : u ≠ 2 * a := fun t => b3 (by rw [← t]; exact hc)
    refine ⟨⟨ci, cc.1, cc.2 _ b3, cc.2 _ b4, ?_, ?_, ?_, fu r u x.2.2, ?_⟩, ⟨cc.2, by show x.2.2 ≤ x.2.2 + 1; omega, fun i i0 i1 => by show fu x.2.1 x.2.2 u i = _; exact fu_n (by omega)⟩, by show fu x.1 u nd u ≠ -1; rw [fu_s]; omega⟩
    · show x.2.2 + 1 + 1 = cnt (fun v => decide (fu x.1 u nd v ≠ -1)) 72
      rw [cnt_sm, sumF_one (x := u) (f := fun v => ivB (decide (x.1 v ≠ -1))) 72 (fun k k0 k1 kn => by show ivB (decide (fu x.1 u nd k ≠ -1)) = ivB (decide (x.1 k ≠ -1)); rw [fu_n kn]), ← cnt_sm, ← b5, if_pos ⟨u0, by omega⟩, fu_s, hc, decide_eq_true (show nd ≠ -1 by omega)]
      rfl
    · intro i i0 i1
      have i1' : i < x.2.2 + 1 := i1
      show fu x.2.1 x.2.2 u i ≠ 2 * a
      by_cases e : i = x.2.2
      · rw [e, fu_s]; exact u2
      · rw [fu_n e]; exact b6 i i0 (by omega)
    · intro v v0 v1 hv va
      have hv' : fu x.1 u nd v ≠ -1 := hv
      by_cases e : v = u
      · exact ⟨x.2.2, b1.2.1, by show x.2.2 < x.2.2 + 1; omega, by show fu x.2.1 x.2.2 u x.2.2 = v; rw [fu_s, e]⟩
      · rw [fu_n e] at hv'
        obtain ⟨i, i0, i1, i2⟩ := b7 v v0 v1 hv' va
        exact ⟨i, i0, by show i < x.2.2 + 1; omega, by show fu x.2.1 x.2.2 u i = v; rw [fu_n (by omega)]; exact i2⟩
    · intro v v0 v1 hv va
      have hv' : fu x.1 u nd v ≠ -1 := hv
      show 0 ≤ fu r u x.2.2 v ∧ fu r u x.2.2 v < x.2.2 + 1 ∧ (v = 2 * a + 1 ∨ (arcR W H op pq al (fu x.1 u nd v) v ∧ fu x.1 u nd v ≠ 2 * a ∧ fu r u x.2.2 (fu x.1 u nd v) < fu r u x.2.2 v))
      by_cases e : v = u
      · have q := b8 nd n0 (by omega) hn na
        have e1 : fu x.1 u nd u = nd := fu_s
        have e2 : fu r u x.2.2 u = x.2.2 := fu_s
        have e3 : fu r u x.2.2 nd = r nd := fu_n (Ne.symm unn)
        rw [e, e1, e2, e3]
        exact ⟨b1.2.1, by omega, Or.inr ⟨ha, na, q.2.1⟩⟩
      · have e1 : fu x.1 u nd v = x.1 v := fu_n e
        have e2 : fu r u x.2.2 v = r v := fu_n e
        rw [e1] at hv'
        have e3 : fu r u x.2.2 (x.1 v) = r (x.1 v) := fu_n (fun t => b2.1 v hv' v0 v1 (by rw [t]; exact hc))
        obtain ⟨q1, q2, q3⟩ := b8 v v0 v1 hv' va
        rw [e1, e2, e3]
        exact ⟨q1, by omega, q3⟩
  · have e : visC x u nd = x := by unfold visC; rw [if_neg (fun t => hc t.1)]
    rw [e]
    exact ⟨hb, exC_r, hc⟩
theorem lvC_B {W H a nd : Int} {op pq : Int → Bool} {al : Int → Int} {x : Ct} (h : wh2 W H) (hb : BFx W H op pq al a x) (n0 : 0 ≤ nd) (n1 : nd < 2 * (W * H)) (hn : x.1 nd ≠ -1) (na : nd ≠ 2 * a) (od : nd % 2 = 1) (j : Nat) (j4 : j ≤ 4) : BFx W H op pq al a (lvC W H pq op al nd x j) ∧ exC x (lvC W H pq op al nd x j) ∧ (pq (nd / 2) = true → (lvC W H pq op al nd x j).1 (2 * (nd / 2)) ≠ -1) ∧ ∀ i : Nat, i < j → nbC W H (nd / 2) i ≠ -1 ∧ op (nbC W H (nd / 2) i) = true ∧ al (4 * (nd / 2) + i) = 0 → (lvC W H pq op al nd x j).1 (2 * nbC W H (nd / 2) i) ≠ -1 := by
  induction j with
  | zero =>
    simp only [lvC]
    cases hp : pq (nd / 2) with
    | true =>
      have := visC_B (u := 2 * (nd / 2)) h hb (by omega) (by omega) n0 n1 hn na (Or.inr (Or.inl ⟨nd / 2, by omega, by omega, by omega, rfl, hp⟩))
      exact ⟨this.1, this.2.1, fun _ => this.2.2, fun i hi => by omega⟩
    | false => exact ⟨hb, exC_r, (fun t => Bool.noConfusion t), fun i hi => by omega⟩
  | succ j ih =>
    obtain ⟨i1, i2, i3, i4⟩ := ih (by omega)
    simp only [lvC]
    by_cases hc : nbC W H (nd / 2) j ≠ -1 ∧ op (nbC W H (nd / 2) j) = true ∧ al (4 * (nd / 2) + j) = 0
    · rw [if_pos hc]
      have ni := nb_in h (by omega : 0 ≤ nd / 2) (by omega) hc.1
      have sj := sdT_j h (by omega : 0 ≤ nd / 2) (by omega) (by omega) hc.1
      have := visC_B (u := 2 * nbC W H (nd / 2) j) h i1 (by omega) (by omega) n0 n1 (i2.1 nd hn) na (Or.inr (Or.inr (Or.inl ⟨nd / 2, nbC W H (nd / 2) j, by omega, by omega, ni.1, ni.2.1, Ne.symm ni.2.2, by omega, rfl, hc.2.1, by rw [sj]; omega, by rw [sj]; exact hc.2.2⟩)))
      refine ⟨this.1, exC_t i2 this.2.1, fun t => this.2.1.1 _ (i3 t), fun i hi hh => ?_⟩
      by_cases e : i = j
      · rw [e]; exact this.2.2
      · exact this.2.1.1 _ (i4 i (by omega) hh)
    · rw [if_neg hc]
      refine ⟨i1, i2, i3, fun i hi hh => ?_⟩
      by_cases e : i = j
      · rw [e] at hh; exact absurd hh hc
      · exact i4 i (by omega) hh
theorem enC_B {W H a nd : Int} {op pq : Int → Bool} {al : Int → Int} {x : Ct} (h : wh2 W H) (hb : BFx W H op pq al a x) (n0 : 0 ≤ nd) (n1 : nd < 2 * (W * H)) (hn : x.1 nd ≠ -1) (na : nd ≠ 2 * a) (od : nd % 2 = 0) (j : Nat) (j4 : j ≤ 4) : BFx W H op pq al a (enC W H pq al nd x j) ∧ exC x (enC W H pq al nd x j) ∧ (pq (nd / 2) = false → (enC W H pq al nd x j).1 (2 * (nd / 2) + 1) ≠ -1) ∧ ∀ i : Nat, i < j → sdT W H (nbC W H (nd / 2) i) (nd / 2) ≠ -1 ∧ al (sdT W H (nbC W H (nd / 2) i) (nd / 2)) ≠ 0 → (enC W H pq al nd x j).1 (2 * nbC W H (nd / 2) i + 1) ≠ -1 := by
  induction j with
  | zero =>
    simp only [enC]
    cases hp : pq (nd / 2) with
    | false =>
      have := visC_B (u := 2 * (nd / 2) + 1) h hb (by omega) (by omega) n0 n1 hn na (Or.inl ⟨nd / 2, by omega, by omega, by omega, rfl, hp⟩)
      exact ⟨this.1, this.2.1, fun _ => this.2.2, fun i hi => by omega⟩
    | true => exact ⟨hb, exC_r, (fun t => Bool.noConfusion t), fun i hi => by omega⟩
  | succ j ih =>
    obtain ⟨i1, i2, i3, i4⟩ := ih (by omega)
    simp only [enC]
    by_cases hc : sdT W H (nbC W H (nd / 2) j) (nd / 2) ≠ -1 ∧ al (sdT W H (nbC W H (nd / 2) j) (nd / 2)) ≠ 0
    · rw [if_pos hc]
      have hnn : nbC W H (nd / 2) j ≠ -1 := fun w => hc.1 (by unfold sdT; rw [if_pos w])
      have ni := nb_in h (by omega : 0 ≤ nd / 2) (by omega) hnn
      have := visC_B (u := 2 * nbC W H (nd / 2) j + 1) h i1 (by omega) (by omega) n0 n1 (i2.1 nd hn) na (Or.inr (Or.inr (Or.inr ⟨nbC W H (nd / 2) j, nd / 2, ni.1, ni.2.1, by omega, by omega, ni.2.2, by omega, rfl, hc.1, hc.2⟩)))
      refine ⟨this.1, exC_t i2 this.2.1, fun t => this.2.1.1 _ (i3 t), fun i hi hh => ?_⟩
      by_cases e : i = j
      · rw [e]; exact this.2.2
      · exact this.2.1.1 _ (i4 i (by omega) hh)
    · rw [if_neg hc]
      refine ⟨i1, i2, i3, fun i hi hh => ?_⟩
      by_cases e : i = j
      · rw [e] at hh; exact absurd hh hc
      · exact i4 i (by omega) hh
theorem fn0_B {W H a : Int} {op pq : Int → Bool} {al g f : Int → Int} (h : wh2 W H) (a0 : 0 ≤ a) (a1 : a < W * H) : BFx W H op pq al a (fn0 a g f) := by
  have hm := wh_mul h
  have ci := fn0_in (g := g) (f := f) h a0 a1
  have cc := fn0_clo (g := g) (f := f) a0 (by omega)
  have fl : ∀ v, 0 ≤ v → v < 72 → fil g 72 (-1) v = -1 := fun v v0 v1 => by unfold fil; rw [if_pos ⟨v0, v1⟩]
  have e1 : (fu (fil g 72 (-1)) (2 * a) (2 * a + 1)) (2 * a + 1) = -1 := by
    rw [fu_n (by omega)]
    exact fl _ (by omega) (by omega)
  have e : fn0 a g f = (fu (fu (fil g 72 (-1)) (2 * a) (2 * a + 1)) (2 * a + 1) (2 * a + 1), fu f 0 (2 * a + 1), 0 + 1) := by
    unfold fn0 visC
    rw [if_pos ⟨e1, by show (0 : Int) < 72; omega⟩]
  rw [e] at ci cc ⊢
  have only : ∀ v, 0 ≤ v → v < 72 → fu (fu (fil g 72 (-1)) (2 * a) (2 * a + 1)) (2 * a + 1) (2 * a + 1) v ≠ -1 → v ≠ 2 * a → v = 2 * a + 1 := by
    intro v v0 v1 hv va
    by_cases t : v = 2 * a + 1
    · exact t
    · rw [fu_n t, fu_n va, fl v v0 v1] at hv
      exact absurd rfl hv
  refine ⟨ci, cc, ?_, ?_, ?_, ?_, ?_, fun _ => 0, ?_⟩
  · show fu (fu (fil g 72 (-1)) (2 * a) (2 * a + 1)) (2 * a + 1) (2 * a + 1) (2 * a) ≠ -1
    rw [fu_n (by omega), fu_s]; omega
  · show fu (fu (fil g 72 (-1)) (2 * a) (2 * a + 1)) (2 * a + 1) (2 * a + 1) (2 * a + 1) ≠ -1
    rw [fu_s]; omega
  · show (0 : Int) + 1 + 1 = cnt (fun v => decide (fu (fu (fil g 72 (-1)) (2 * a) (2 * a + 1)) (2 * a + 1) (2 * a + 1) v ≠ -1)) 72
    rw [cnt_sm, sumF_one (x := 2 * a + 1) (f := fun v => ivB (decide (fu (fil g 72 (-1)) (2 * a) (2 * a + 1) v ≠ -1))) 72 (fun k k0 k1 kn => by show ivB (decide (fu (fu (fil g 72 (-1)) (2 * a) (2 * a + 1)) (2 * a + 1) (2 * a + 1) k ≠ -1)) = ivB (decide (fu (fil g 72 (-1)) (2 * a) (2 * a + 1) k ≠ -1)); rw [fu_n kn]),
      sumF_one (x := 2 * a) (f := fun v => 0) 72 (fun k k0 k1 kn => by show ivB (decide (fu (fil g 72 (-1)) (2 * a) (2 * a + 1) k ≠ -1)) = 0; rw [fu_n kn, fl k k0 (by omega)]; rfl),
      sumF_0 72 (fun _ _ _ => rfl), if_pos ⟨by omega, by omega⟩, if_pos ⟨by omega, by omega⟩, fu_s, fu_s, e1, decide_eq_true (show 2 * a + 1 ≠ -1 by omega)]
    rfl
  · intro i i0 i1
    have i1' : i < 0 + 1 := i1
    show fu f 0 (2 * a + 1) i ≠ 2 * a
    rw [show i = 0 by omega, fu_s]; omega
  · intro v v0 v1 hv va
    exact ⟨0, Int.le_refl _, by show (0 : Int) < 0 + 1; omega, by show fu f 0 (2 * a + 1) 0 = v; rw [fu_s]; exact (only v v0 v1 hv va).symm⟩
  · intro v v0 v1 hv va
    exact ⟨Int.le_refl _, by show (0 : Int) < 0 + 1; omega, Or.inl (only v v0 v1 hv va)⟩
theorem fnI_B {W H a z : Int} {op pq : Int → Bool} {al : Int → Int} {x : Ct} (h : wh2 W H) (hb : BFx W H op pq al a x) (n : Nat) : BFx W H op pq al a (fnI W H pq op al z x n) ∧ ((fnI W H pq op al z x n).1 (2 * z) = -1 → ∀ i : Int, 0 ≤ i → i < (n : Int) → i < (fnI W H pq op al z x n).2.2 → ∀ u, arcR W H op pq al ((fnI W H pq op al z x n).2.1 i) u → (fnI W H pq op al z x n).1 u ≠ -1) := by
  have hm := wh_mul h
  induction n with
  | zero => exact ⟨hb, fun _ i i0 i1 => by omega⟩
  | succ n ih =>
    simp only [fnI]
    unfold fnS
    generalize fnI W H pq op al z x n = y at ih ⊢
    obtain ⟨hy, hp⟩ := ih
    by_cases hc : y.2.2 ≤ n ∨ y.1 (2 * z) ≠ -1
    · rw [if_pos hc]
      refine ⟨hy, fun hz i i0 i1 i2 => ?_⟩
      rcases hc with hc | hc
      · exact hp hz i i0 (by omega) i2
      · exact absurd hz hc
    · rw [if_neg hc]
      have hlt : (n : Int) < y.2.2 := by omega
      have hz : y.1 (2 * z) = -1 := by
        by_cases t : y.1 (2 * z) = -1
        · exact t
        · exact absurd (Or.inr t) hc
      have hr := hy.1.2.2.2 n (by omega) hlt
      have hv := hy.2.1.2 n (by omega) hlt
      have ha := hy.2.2.2.2.2.1 n (by omega) hlt
      have fin : ∀ y' : Ct, exC y y' → (∀ u, arcR W H op pq al (y.2.1 n) u → y'.1 u ≠ -1) → ∀ i : Int, 0 ≤ i → i < ((n + 1 : Nat) : Int) → ∀ u, arcR W H op pq al (y'.2.1 i) u → y'.1 u ≠ -1 := by
        intro y' he hu i i0 i1 u hau
        rw [he.2.2 i i0 (by omega)] at hau
        by_cases e : i = n
        · rw [e] at hau; exact hu u hau
        · exact he.1 u (hp hz i i0 (by omega) (by omega) u hau)
      by_cases od : y.2.1 n % 2 = 1
      · rw [if_pos od]
        obtain ⟨l1, l2, l3, l4⟩ := lvC_B (pq := pq) (al := al) h hy hr.1 hr.2 hv ha od 4 (Nat.le_refl _)
        refine ⟨l1, fun _ i i0 i1 _ => fin _ l2 (fun u hu => ?_) i i0 i1⟩
        rcases hu with ⟨c, c0, c1, e1, e2, e3⟩ | ⟨c, c0, c1, e1, e2, e3⟩ | ⟨b, c, b0, b1, c0, c1, bc, e1, e2, e3, e4, e5⟩ | ⟨b, c, b0, b1, c0, c1, bc, e1, e2, e3, e4⟩
        · omega
        · have q := l3 (by rw [show y.2.1 n / 2 = c by omega]; exact e3)
          rw [show y.2.1 n / 2 = c by omega] at q
          rw [e2]; exact q
        · obtain ⟨j, j0, j1, j2, j3⟩ := sdT_x b0 e4
          have eb : y.2.1 n / 2 = b := by omega
          have q := l4 j.toNat (by omega) (by
            rw [show ((j.toNat : Nat) : Int) = j by omega, eb, j3]
            exact ⟨by omega, e3, by rw [← j2]; exact e5⟩)
          rw [show ((j.toNat : Nat) : Int) = j by omega, eb, j3] at q
          rw [e2]; exact q
        · omega
      · rw [if_neg od]
        obtain ⟨l1, l2, l3, l4⟩ := enC_B (pq := pq) (al := al) h hy hr.1 hr.2 hv ha (by omega) 4 (Nat.le_refl _)
        refine ⟨l1, fun _ i i0 i1 _ => fin _ l2 (fun u hu => ?_) i i0 i1⟩
        rcases hu with ⟨c, c0, c1, e1, e2, e3⟩ | ⟨c, c0, c1, e1, e2, e3⟩ | ⟨b, c, b0, b1, c0, c1, bc, e1, e2, e3, e4, e5⟩ | ⟨b, c, b0, b1, c0, c1, bc, e1, e2, e3, e4⟩
        · have q := l3 (by rw [show y.2.1 n / 2 = c by omega]; exact e3)
          rw [show y.2.1 n / 2 = c by omega] at q
          rw [e2]; exact q
        · omega
        · omega
        · obtain ⟨j, j0, j1, j2, j3⟩ := sdT_x b0 e3
          have eb : y.2.1 n / 2 = c := by omega
          have sy := nb_sym h b0 b1 j0 j1 (by rw [j3]; omega)
          rw [j3] at sy
          have q := l4 (3 - j).toNat (by omega) (by
            rw [show (((3 - j).toNat : Nat) : Int) = 3 - j by omega, eb, sy]
            exact ⟨e3, e4⟩)
          rw [show (((3 - j).toNat : Nat) : Int) = 3 - j by omega, eb, sy] at q
          rw [e2]; exact q
