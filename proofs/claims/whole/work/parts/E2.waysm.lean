/-! ===== counts of ways, cell by cell by rising cost: mathematics ===== -/
def jn2 (W H z a : Int) : Nat → Bool
  | 0 => false
  | d + 1 => jn2 W H z a d || decide (nbC W H z d = a)
def jr2 (W H a z : Int) : Nat → Bool
  | 0 => false
  | e + 1 => jr2 W H a z e || decide (bsC W H a e = z)
theorem jn2_iff {W H z a : Int} : ∀ n : Nat, jn2 W H z a n = true ↔ ∃ d : Nat, d < n ∧ nbC W H z d = a
  | 0 => ⟨fun h => Bool.noConfusion h, fun ⟨d, h, _⟩ => absurd h (Nat.not_lt_zero d)⟩
  | n + 1 => by
    rw [show jn2 W H z a (n + 1) = (jn2 W H z a n || decide (nbC W H z n = a)) from rfl, Bool.or_eq_true, decide_eq_true_iff, jn2_iff n]
    constructor
    · rintro (⟨d, h, e⟩ | e)
      · exact ⟨d, by omega, e⟩
      · exact ⟨n, by omega, e⟩
    · rintro ⟨d, h, e⟩
      by_cases hd : d = n
      · rw [hd] at e; exact Or.inr e
      · exact Or.inl ⟨d, by omega, e⟩
theorem jr2_iff {W H z a : Int} : ∀ n : Nat, jr2 W H a z n = true ↔ ∃ d : Nat, d < n ∧ bsC W H a d = z
  | 0 => ⟨fun h => Bool.noConfusion h, fun ⟨d, h, _⟩ => absurd h (Nat.not_lt_zero d)⟩
  | n + 1 => by
    rw [show jr2 W H a z (n + 1) = (jr2 W H a z n || decide (bsC W H a n = z)) from rfl, Bool.or_eq_true, decide_eq_true_iff, jr2_iff n]
    constructor
    · rintro (⟨d, h, e⟩ | e)
      · exact ⟨d, by omega, e⟩
      · exact ⟨n, by omega, e⟩
    · rintro ⟨d, h, e⟩
      by_cases hd : d = n
      · rw [hd] at e; exact Or.inr e
      · exact Or.inl ⟨d, by omega, e⟩
theorem nb_inj {W H z d e : Int} (h : wh2 W H) (d0 : 0 ≤ d) (d1 : d < 4) (e0 : 0 ≤ e) (e1 : e < 4) (hd : nbC W H z d ≠ -1) (he : nbC W H z d = nbC W H z e) : d = e := by
  have h1 := h.1
  unfold nbC at hd he
  generalize z / W = q at hd he
  generalize z % W = r at hd he
  have c1 : d = 0 ∨ d = 1 ∨ d = 2 ∨ d = 3 := by omega
  have c2 : e = 0 ∨ e = 1 ∨ e = 2 ∨ e = 3 := by omega
  rcases c1 with c1 | c1 | c1 | c1 <;> rcases c2 with c2 | c2 | c2 | c2 <;> subst c1 <;> subst c2 <;> first | rfl | (exfalso; simp only [Int.reduceEq, if_true, if_false] at hd he; repeat' (split at hd <;> first | omega | (split at he <;> omega)))
theorem rdq_in (e : Nat) : 0 ≤ rdD e ∧ rdD e < 4 := by
  unfold rdD
  split
  · omega
  · split
    · omega
    · split <;> omega
theorem rdq_inj {d e : Nat} (hd : d < 4) (he : e < 4) (h : rdD d = rdD e) : d = e := by
  have c1 : d = 0 ∨ d = 1 ∨ d = 2 ∨ d = 3 := by omega
  have c2 : e = 0 ∨ e = 1 ∨ e = 2 ∨ e = 3 := by omega
  rcases c1 with c1 | c1 | c1 | c1 <;> rcases c2 with c2 | c2 | c2 | c2 <;> subst c1 <;> subst c2 <;> first | rfl | (exfalso; revert h; decide)
theorem rdq_ex (d : Int) (d0 : 0 ≤ d) (d1 : d < 4) : ∃ e : Nat, e < 4 ∧ rdD e = d := by
  have c1 : d = 0 ∨ d = 1 ∨ d = 2 ∨ d = 3 := by omega
  rcases c1 with c1 | c1 | c1 | c1
  · exact ⟨2, by omega, by rw [c1]; rfl⟩
  · exact ⟨0, by omega, by rw [c1]; rfl⟩
  · exact ⟨1, by omega, by rw [c1]; rfl⟩
  · exact ⟨3, by omega, by rw [c1]; rfl⟩
theorem jn_jr {W H z a : Int} (h : wh2 W H) (z0 : 0 ≤ z) (z1 : z < W * H) (a0 : 0 ≤ a) (a1 : a < W * H) : jr2 W H a z 4 = jn2 W H z a 4 := by
  rw [Bool.eq_iff_iff, jr2_iff, jn2_iff]
  constructor
  · rintro ⟨e, he, hz⟩
    have r := rdq_in e
    have s := nb_sym (d := rdD e) h a0 a1 r.1 r.2 (by show bsC W H a e ≠ -1; omega)
    rw [show nbC W H a (rdD e) = z from hz] at s
    refine ⟨(3 - rdD e).toNat, by omega, ?_⟩
    rw [show (((3 - rdD e).toNat : Nat) : Int) = 3 - rdD e by omega]
    exact s
  · rintro ⟨d, hd, ha⟩
    have s := nb_sym (d := (d : Int)) h z0 z1 (by omega) (by omega) (by omega)
    rw [ha] at s
    obtain ⟨e, e4, he⟩ := rdq_ex (3 - (d : Int)) (by omega) (by omega)
    refine ⟨e, e4, ?_⟩
    unfold bsC
    rw [he]
    exact s
theorem mS_p {W H z a : Int} {c f : Int → Int} {M : Int → Int64} {X : Int64} (h : wh2 W H) (a0 : 0 ≤ a) (hM : M a = i64 0) : ∀ n : Nat, n ≤ 4 → mS W H c f (fun k => if k = a then X else M k) z n = mS W H c f M z n + if jn2 W H z a n = true ∧ f a + c z = f z then X else i64 0
  | 0, _ => by
    rw [if_neg (fun t => Bool.noConfusion t.1)]
    exact (Int64.add_zero _).symm
  | n + 1, hn => by
    have ih := mS_p (z := z) (c := c) (f := f) (X := X) h a0 hM n (by omega)
    simp only [mS]
    have jE : jn2 W H z a (n + 1) = (jn2 W H z a n || decide (nbC W H z n = a)) := rfl
    by_cases e : nbC W H z n = -1 ∨ ¬ f (nbC W H z n) + c z = f z
    · rw [if_pos e, if_pos e, ih]
      congr 1
      by_cases ea : nbC W H z n = a
      · have hx : ¬ f a + c z = f z := by rw [← ea]; exact e.resolve_left (by omega)
        rw [if_neg (fun t => hx t.2), if_neg (fun t => hx t.2)]
      · rw [jE, decide_eq_false ea, Bool.or_false]
    · rw [if_neg e, if_neg e, ih]
      by_cases ea : nbC W H z n = a
      · have hx : f a + c z = f z := by rw [← ea]; exact Decidable.of_not_not (fun t => e (Or.inr t))
        have jf : ¬ jn2 W H z a n = true := by
          rw [jn2_iff]
          rintro ⟨d, hd, he⟩
          have := nb_inj (z := z) (d := (d : Int)) (e := (n : Int)) h (by omega) (by omega) (by omega) (by omega) (by rw [he]; omega) (by rw [he, ea])
          omega
        rw [if_neg (fun t => jf t.1), if_pos ea, if_pos ⟨by rw [jE, ea, decide_eq_true rfl, Bool.or_true], hx⟩, ea, hM]
      · rw [if_neg ea, jE, decide_eq_false ea, Bool.or_false, Int64.add_assoc, Int64.add_assoc, Int64.add_comm (M _)]
/-- one cell's count pushed on to its sides -/
theorem wyI_s {W H a0 a : Int} {c f : Int → Int} {p : Int → Bool} {M M' : Int → Int64} (h : wh2 W H) (hc : csIn c (W * H)) (b0 : 0 ≤ a) (b1 : a < W * H) (pa : p a = false) (hp : ∀ z, 0 ≤ z → z < W * H → p z = true → f z ≤ f a ∧ c z ≠ -1) (ca : c a ≠ -1)
    (hI : ∀ z, 0 ≤ z → z < W * H → c z ≠ -1 → M z = (if z = a0 then i64 1 else i64 0) + mS W H c f (fun k => if p k then M k else i64 0) z 4)
    (hM : ∀ z, 0 ≤ z → z < W * H → M' z = M z + if jr2 W H a z 4 = true ∧ c z ≠ -1 ∧ f a + c z = f z then M a else i64 0) :
    ∀ z, 0 ≤ z → z < W * H → c z ≠ -1 → M' z = (if z = a0 then i64 1 else i64 0) + mS W H c f (fun k => if (p k || decide (k = a)) then M' k else i64 0) z 4 := by
  intro z z0 z1 cz
  have old : ∀ k, 0 ≤ k → k < W * H → (p k = true ∨ k = a) → M' k = M k := by
    intro k k0 k1 hk
    have hck := hc k k0 k1
    rw [hM k k0 k1, if_neg]
    · exact Int64.add_zero _
    · rintro ⟨_, x, y⟩
      rcases hk with hk | hk
      · have := hp k k0 k1 hk; omega
      · rw [hk] at y x hck; omega
  rw [hM z z0 z1, hI z z0 z1 cz, Int64.add_assoc]
  congr 1
  have m1 := mS_p (z := z) (c := c) (f := f) (M := fun k => if p k then M k else i64 0) (X := M a) h b0 (by show (if p a then M a else i64 0) = i64 0; rw [pa]; rfl) 4 (Nat.le_refl 4)
  have m2 : mS W H c f (fun k => if (p k || decide (k = a)) then M' k else i64 0) z 4 = mS W H c f (fun k => if k = a then M a else if p k then M k else i64 0) z 4 := by
    refine mS_cg h z0 z1 rfl (fun _ _ _ => rfl) (fun d hd e e2 => ?_) 4 (Nat.le_refl 4)
    have hi := nb_in h z0 z1 e
    show (if (p (nbC W H z d) || decide (nbC W H z d = a)) then M' (nbC W H z d) else i64 0) = if nbC W H z d = a then M a else if p (nbC W H z d) then M (nbC W H z d) else i64 0
    generalize nbC W H z d = k at hi ⊢
    by_cases ek : k = a
    · rw [if_pos ek, old k hi.1 hi.2.1 (Or.inr ek), ek, decide_eq_true rfl, Bool.or_true]; rfl
    · rw [if_neg ek, decide_eq_false ek, Bool.or_false]
      cases e3 : p k with
      | true => rw [old k hi.1 hi.2.1 (Or.inl e3)]
      | false => rfl
  rw [m2, m1]
  congr 1
  rw [jn_jr h z0 z1 b0 b1]
  by_cases x : jn2 W H z a 4 = true ∧ f a + c z = f z
  · rw [if_pos x, if_pos ⟨x.1, cz, x.2⟩]
  · rw [if_neg x, if_neg (fun y => x ⟨y.1, y.2.2⟩)]
theorem mS_00 {W H z : Int} {c f : Int → Int} : ∀ n : Nat, mS W H c f (fun _ => i64 0) z n = i64 0
  | 0 => rfl
  | n + 1 => by
    simp only [mS]
    rw [mS_00 n]
    split
    · rfl
    · exact Int64.add_zero _
theorem wyI_e {W H a : Int} {c f : Int → Int} {p : Int → Bool} {M : Int → Int64} (h : wh2 W H) (hc : csIn c (W * H)) (hf : ∀ z, 0 ≤ z → z < W * H → (0 ≤ f z ∧ f z ≤ 6516) ∨ f z = far) (nw : ∀ z, 0 ≤ z → z < W * H → f z < far → c z ≠ -1) (fa : f a < far) (hd : ∀ z, 0 ≤ z → z < W * H → f z < far → p z = true)
    (hI : ∀ z, 0 ≤ z → z < W * H → c z ≠ -1 → M z = (if z = a then i64 1 else i64 0) + mS W H c f (fun k => if p k then M k else i64 0) z 4) (hw : ∀ z, 0 ≤ z → z < W * H → c z = -1 → M z = i64 0) : wyC W H c f a M := by
  have hfar : far = 1000000000 := rfl
  refine ⟨fun z z0 z1 nf => ?_, fun z z0 z1 zf => ?_⟩
  · by_cases cz : c z = -1
    · exact hw z z0 z1 cz
    · rw [hI z z0 z1 cz, if_neg (fun e : z = a => nf (by rw [e]; exact fa))]
      have m0 : mS W H c f (fun k => if p k then M k else i64 0) z 4 = mS W H c f (fun _ => i64 0) z 4 := by
        refine mS_cg h z0 z1 rfl (fun _ _ _ => rfl) (fun d hd e e2 => ?_) 4 (Nat.le_refl 4)
        have hi := nb_in h z0 z1 e
        have b1 := hf _ hi.1 hi.2.1
        have b2 := hf z z0 z1
        have b3 := hc z z0 z1
        omega
      rw [m0, mS_00]
      exact Int64.add_zero _
  · rw [hI z z0 z1 (nw z z0 z1 zf)]
    congr 1
    refine mS_cg h z0 z1 rfl (fun _ _ _ => rfl) (fun d hd2 e e2 => ?_) 4 (Nat.le_refl 4)
    have hi := nb_in h z0 z1 e
    have b1 := hf _ hi.1 hi.2.1
    have b3 := hc z z0 z1
    have b4 := nw z z0 z1 zf
    show (if p (nbC W H z d) then M (nbC W H z d) else i64 0) = M (nbC W H z d)
    rw [hd _ hi.1 hi.2.1 (by omega)]
    rfl
