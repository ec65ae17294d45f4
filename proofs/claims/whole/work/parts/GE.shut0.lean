/-! ===== shutOff: through the law; bounds of codes ===== -/
/-- what the class answers, in the reference's state; W: any store tied to it -/
theorem sh_fl {σ : St} {K : Int → Int} {B w z : Int} (ht : tie σ 2 K) (hv : kV K B) (w' : wzI K w z) : flW σ (K 1) (K 2) (nK K) (σ 702 10 w) z = true ↔ dK K w z < far := by
  unfold flW
  rw [opA ht hv, tkp ht w'.1.1 w'.1.2]
  exact dK_fl hv w'.1.1 w'.1.2 w'.2.1 w'.2.2
theorem sh_bs {K : Int → Int} {B w z : Int} (hv : kV K B) (w' : wzI K w z) : nbB (K 1) (K 2) (fun i => decide (i = K (79 + w))) z = true ↔ ∃ e : Int, 0 ≤ e ∧ e < 4 ∧ bsC (K 1) (K 2) (K (79 + w)) e = z := by
  obtain ⟨h2, h5, h6, h7⟩ := kV_w hv w'.1.1 w'.1.2
  rw [nbB_iff w'.2.1 w'.2.2]
  have jj := jn_jr h2 w'.2.1 w'.2.2 h6.1 h6.2
  have a := jn2_iff (W := K 1) (H := K 2) (z := z) (a := K (79 + w)) 4
  have b := jr2_iff (W := K 1) (H := K 2) (z := z) (a := K (79 + w)) 4
  rw [jj, a] at b
  constructor
  · rintro ⟨d, hd, hn, e⟩
    obtain ⟨e', he, hz⟩ := b.mp ⟨d, hd, of_decide_eq_true e⟩
    exact ⟨e', by omega, by omega, hz⟩
  · rintro ⟨e, e0, e1, hz⟩
    obtain ⟨d, hd, hn⟩ := b.mpr ⟨e.toNat, by omega, by rw [show ((e.toNat : Nat) : Int) = e by omega]; exact hz⟩
    exact ⟨d, hd, by omega, decide_eq_true hn⟩
def shV (K : Int → Int) (w z : Int) (v : Int) : Prop := (K (79 + w) ≠ z ∧ ¬ dK K w z < far ∧ v = 0) ∨ ((K (79 + w) = z ∨ (dK K w z < far ∧ ∃ e : Int, 0 ≤ e ∧ e < 4 ∧ bsC (K 1) (K 2) (K (79 + w)) e = z)) ∧ v = -1) ∨ (K (79 + w) ≠ z ∧ dK K w z < far ∧ (¬ ∃ e : Int, 0 ≤ e ∧ e < 4 ∧ bsC (K 1) (K 2) (K (79 + w)) e = z) ∧ ∃ l : Nat, l ≤ 4 ∧ (∀ j : Nat, j < l → ¬ shS K w z j (fun _ => false) 0) ∧ (l < 4 → shS K w z l (fun _ => false) 0) ∧ v = l)
theorem shV_u {K : Int → Int} {B w z v v' : Int} (hv : kV K B) (w' : wzI K w z) (h : shV K w z v) (h' : shV K w z v') : v = v' := by
  have st : K (79 + w) = z → dK K w z < far := fun e => by rw [← e, dK_st hv w'.1.1 w'.1.2]; decide
  rcases h with ⟨a, b, c⟩ | ⟨a, c⟩ | ⟨a, b, b2, l, l4, l1, l2, c⟩ <;> rcases h' with ⟨a', b', c'⟩ | ⟨a', c'⟩ | ⟨a', b', b2', l', l4', l1', l2', c'⟩
  · rw [c, c']
  · rcases a' with a' | a'
    · exact absurd a' a
    · exact absurd a'.1 b
  · exact absurd b' b
  · rcases a with a | a
    · exact absurd a a'
    · exact absurd a.1 b'
  · rw [c, c']
  · rcases a with a | a
    · exact absurd a a'
    · exact absurd a.2 b2'
  · exact absurd b b'
  · rcases a' with a' | a'
    · exact absurd a' a
    · exact absurd a'.2 b2
  · have : l = l' := by
      by_cases e : l < l'
      · exact absurd (l2 (by omega)) (l1' l e)
      · by_cases e' : l' < l
        · exact absurd (l2' (by omega)) (l1 l' e')
        · omega
    rw [c, c', this]
/-- the class finds the least cut -/
theorem sh_ls {σ : St} {K : Int → Int} {B w z : Int} {g f1 f2 : Int → Int} (ht : tie σ 2 K) (hv : kV K B) (w' : wzI K w z) (ne : K (79 + w) ≠ z) (hf : dK K w z < far) (nb : ¬ ∃ e : Int, 0 ≤ e ∧ e < 4 ∧ bsC (K 1) (K 2) (K (79 + w)) e = z) : ∃ l : Nat, l ≤ 4 ∧ (∀ j : Nat, j < l → ¬ shS K w z j (fun _ => false) 0) ∧ (l < 4 → shS K w z l (fun _ => false) 0) ∧ lsR (K 1) (K 2) (opB (kdK K 7) (K 1 * K 2)) (K (79 + w)) z 4 (fun _ => false) (fil g 144 0) f1 f2 = l := by
  obtain ⟨h2, h5, h6, h7⟩ := kV_w hv w'.1.1 w'.1.2
  refine sh_lsQ hv w' ne (fun ⟨e, e0, e1, e2⟩ => nb ((sh_bs hv w').mp ?_))
  have sy := nb_sym h2 h6.1 h6.2 e0 e1 (by rw [e2]; have := w'.2.1; omega)
  rw [e2] at sy
  exact (nbB_iff w'.2.1 w'.2.2).mpr ⟨(3 - e).toNat, by omega, by rw [show (((3 - e).toNat : Nat) : Int) = 3 - e by omega, sy]; have := h6.1; omega, by rw [show (((3 - e).toNat : Nat) : Int) = 3 - e by omega, sy]; exact decide_eq_true rfl⟩
theorem shA_V {σ : St} {K : Int → Int} {B w z : Int} (ht : tie σ 2 K) (hv : kV K B) (w' : wzI K w z) : shV K w z (shA σ (K 1) (K 2) (nK K) (σ 702 10 w) z) := by
  have fl := sh_fl ht hv w'
  have bs := sh_bs hv w'
  have op := opA ht hv
  have st : K (79 + w) = z → dK K w z < far := fun e => by rw [← e, dK_st hv w'.1.1 w'.1.2]; decide
  rw [tkp ht w'.1.1 w'.1.2] at fl ⊢
  unfold shA
  by_cases hf : dK K w z < far
  · rw [if_pos (fl.mpr hf)]
    by_cases e : z = K (79 + w) ∨ nbB (K 1) (K 2) (fun i => decide (i = K (79 + w))) z = true
    · rw [if_pos e]
      refine Or.inr (Or.inl ⟨?_, rfl⟩)
      rcases e with e | e
      · exact Or.inl e.symm
      · exact Or.inr ⟨hf, bs.mp e⟩
    · rw [if_neg e, op]
      have e1 : K (79 + w) ≠ z := fun t => e (Or.inl t.symm)
      have e2 : ¬ ∃ e : Int, 0 ≤ e ∧ e < 4 ∧ bsC (K 1) (K 2) (K (79 + w)) e = z := fun t => e (Or.inr (bs.mpr t))
      obtain ⟨l, l4, l1, l2, l3⟩ := sh_ls (g := σ 1 151) (f1 := σ 3 151) (f2 := σ 2 151) ht hv w' e1 hf e2
      exact Or.inr (Or.inr ⟨e1, hf, e2, l, l4, l1, l2, l3⟩)
  · rw [if_neg (fun t => hf (fl.mp t))]
    exact Or.inl ⟨fun t => hf (st t), hf, rfl⟩
def shW (K : Int → Int) (w z : Int) (x : Int64) : Prop := ∃ v, shV K w z v ∧ x = i64 ((i32 v).toInt)
theorem l347 {d : Nat} {B w z : Int} {K : Int → Int} {T : Tt} {σ : St} {Q : vmO → vmH → Prop} (hI : Inv B σ) (hB : B < 790000000) (hK : σ 1200 382 = K) (lo0 : -2147483648 ≤ w) (hi0 : w < 2147483648) (lo1 : -2147483648 ≤ z) (hi1 : z < 2147483648) (hQ : ∀ kk T' τ, qM σ τ kk (wzI K w z) True (shW K w z) → (T' = T ∨ T' = thr T) → Q (.inl (some (.int (i32 kk)))) (E T' τ)) : Ca (d + 40) 4 347 [.ref 0, .int (i32 w), .int (i32 z), .ref 405] (E T σ) Q := by
  have ht : tie σ 2 K := by rw [← hK]; exact hI.1.1
  have hv : kV K B := by rw [← hK]; exact hI.1.2.1
  rw [n347 _ _ _ _ _ _ _ _ (by omega)]
  simp (disch := (first | assumption | omega | exact Nat.le_of_ble_eq_true rfl | rfl)) only [w347_0, w347_1, w347_2, w347_3, w347_4, w347_5, Ko_n, Ko_v, vX_i, vX_r, vX_l, vX_j, reduceIte]
  refine c144 (tie_hp ht hv (by omega)) lo0 hi0 lo1 hi1 (fun h => ?_) (fun a b c e τ hs => ?_)
  · rw [Ko_c (v := 1) rfl rfl]; exact hQ 1 _ _ (qM_1 (fun x => h ((wzE ht hv).mpr x))) (Or.inr rfl)
  · have w' := (wzE ht hv).mp ⟨⟨a, b⟩, c, e⟩
    have sv := shA_V ht hv w'
    have hb1 := Int32.le_toInt (i32 (shA σ (K 1) (K 2) (nK K) (σ 702 10 w) z))
    have hb2 := Int32.toInt_lt (i32 (shA σ (K 1) (K 2) (nK K) (σ 702 10 w) z))
    rw [← i32_toInt (i32 (shA σ (K 1) (K 2) (nK K) (σ 702 10 w) z))]
    generalize hu : (i32 (shA σ (K 1) (K 2) (nK K) (σ 702 10 w) z)).toInt = u at hb1 hb2 ⊢
    simp (disch := (first | assumption | omega | exact Nat.le_of_ble_eq_true rfl | rfl)) only [w347_8, w347_9, w347_10, w347_17, w347_18, Ko_n, Ko_v, vX_i, vX_r, vX_l, vX_j, reduceIte]
    exact hQ 0 _ _ (qM_0 w' trivial hs ⟨_, sv, by rw [hu]⟩) (Or.inl rfl)
theorem r282 {d : Nat} {k B kk w z : Int} {K : Int → Int} {T : Tt} {σ τ : St} {Q : vmO → vmH → Prop} (hI : Inv B σ) (hB : B < 790000000) (hK : σ 1200 382 = K) (lo0 : -2147483648 ≤ w) (hi0 : w < 2147483648) (lo1 : -2147483648 ≤ z) (hi1 : z < 2147483648) (hm : qM σ τ kk (wzI K w z) True (shW K w z)) (hQ : ∀ b ρ, rM ρ B kk (i64 ((i32 b).toInt)) → Q (.inl (some (.int (i32 b)))) (E T ρ)) : Ca (d + 40) k 282 [.ref 382, .int (i32 w), .int (i32 z)] (E T τ) Q := by
  have hv : kV K B := by rw [← hK]; exact hI.1.2.1
  have e : τ 1200 382 = K := by rw [hm.1 1200 382 (by omega)]; exact hK
  have un : wzI K w z → ∀ x y, shW K w z x → shW K w z y → x = y := by
    rintro w' x y ⟨v, h, hx⟩ ⟨v', h', hy⟩
    rw [hx, hy, shV_u hv w' h h']
  refine c282 e hv (by omega) lo0 hi0 lo1 hi1 (fun h ρ f g1 g2 => hQ _ _ (rM_1 hI hm (Or.inl ⟨h, rfl⟩) f (g1.trans hK.symm) g2)) (fun h1 h2 h3 ρ f g1 g2 => hQ _ _ (rM_0 hI hm h1 trivial (un h1) ⟨0, Or.inl ⟨h2, h3, rfl⟩, rfl⟩ f (g1.trans hK.symm) g2)) (fun h1 h2 ρ f g1 g2 => hQ _ _ (rM_0 hI hm h1 trivial (un h1) ⟨-1, Or.inr (Or.inl ⟨h2, rfl⟩), rfl⟩ f (g1.trans hK.symm) g2)) (fun h1 h2 h3 h4 l l4 l1 l2 ρ f g1 g2 => hQ _ _ (rM_0 hI hm h1 trivial (un h1) ⟨l, Or.inr (Or.inr ⟨h2, h3, h4, l, l4, l1, l2, rfl⟩), rfl⟩ f (g1.trans hK.symm) g2))
theorem qM_b {σ τ : St} {kk : Int} {c1 c2 : Prop} {V : Int64 → Prop} (h : qM σ τ kk c1 c2 V) : 0 ≤ kk ∧ kk ≤ 3 := by
  rcases h.2 with ⟨_, e⟩ | ⟨_, _, e⟩ | ⟨_, _, e, _⟩ <;> omega
theorem dM_b {σ τ : St} {kk : Int} {c1 c2 c3 : Prop} {K' : Int → Int} {v : Int64} (h : dM σ τ kk c1 c2 c3 K' v) : 0 ≤ kk ∧ kk ≤ 3 := by
  rcases h with ⟨_, ⟨_, e⟩ | ⟨_, _, e⟩ | ⟨_, _, _, e⟩⟩ | ⟨_, e, _⟩ <;> omega
theorem pkM_b {σ τ : St} {kk n : Int} (h : pkM σ τ kk n) : 0 ≤ kk ∧ kk ≤ 3 := by
  rcases h with ⟨_, e, _⟩ | ⟨_, e, _⟩ <;> omega
theorem tyM_b {σ τ : St} {kk t s m : Int} (h : tyM σ τ kk t s m) : 0 ≤ kk ∧ kk ≤ 3 := by
  rcases h with ⟨_, e, _⟩ | ⟨_, _, e, _⟩ | ⟨_, _, e, _⟩ <;> omega
theorem wtM_b {σ τ : St} {kk t p : Int} {v : Int64} (h : wtM σ τ kk t p v) : 0 ≤ kk ∧ kk ≤ 3 := by
  rcases h with ⟨_, e, _⟩ | ⟨_, _, e, _⟩ | ⟨_, _, _, e, _⟩ | ⟨_, _, _, e, _⟩ <;> omega
theorem cyM_b {σ τ : St} {K : Int → Int} {kk t : Int} (h : cyM σ τ K kk t) : 0 ≤ kk ∧ kk ≤ 3 := by
  rcases h with ⟨_, e, _⟩ | ⟨_, _, e, _⟩ | ⟨_, _, e, _⟩ <;> omega
theorem iaM_b {σ τ : St} {kk i : Int} (h : iaM σ τ kk i) : 0 ≤ kk ∧ kk ≤ 3 := by
  rcases h with ⟨_, e, _⟩ | ⟨_, e, _⟩ <;> omega
theorem reM_b {σ τ : St} {kk i : Int} (h : reM σ τ kk i) : 0 ≤ kk ∧ kk ≤ 3 := by
  rcases h with ⟨_, e, _⟩ | ⟨_, _, e, _⟩ | ⟨_, _, e, _⟩ <;> omega
theorem tt {t1 t2 n : Nat} {t3 : Bool} {S : Nat → Int} {T' : Tt} (h : T' = (t1, t2, t3, n, S) ∨ T' = thr (t1, t2, t3, n, S)) : ∃ a b c, T' = (a, b, c, n, S) ∧ a ≤ t1 + 1 ∧ b ≤ t2 + 6 := by
  rcases h with h | h
  · exact ⟨t1, t2, t3, h, Nat.le_succ _, by omega⟩
  · exact ⟨t1 + 1, t2 + 6, false, h, Nat.le_refl _, Nat.le_refl _⟩
