/-! ===== what hangs together is what one can reach ===== -/
theorem flI_mo {W H z : Int} {o : Int → Bool} {n : Nat} {k : Int} (h : flI W H o z n k = true) : flI W H o z (n + 1) k = true ∧ o k = true := by
  have ho : o k = true := by
    cases n with
    | zero =>
      have : (decide (k = z) && o k) = true := h
      rw [Bool.and_eq_true] at this
      exact this.2
    | succ n =>
      have : ((flI W H o z n k || nbB W H (flI W H o z n) k) && o k) = true := h
      rw [Bool.and_eq_true] at this
      exact this.2
  refine ⟨?_, ho⟩
  show ((flI W H o z n k || nbB W H (flI W H o z n) k) && o k) = true
  rw [h, ho]
  rfl
theorem flI_up {W H z : Int} {o : Int → Bool} {n : Nat} {k : Int} (h : flI W H o z n k = true) : ∀ m : Nat, flI W H o z (n + m) k = true
  | 0 => h
  | m + 1 => (flI_mo (flI_up h m)).1
theorem flI_st {W H z : Int} {o : Int → Bool} {N : Nat} (hN : (N : Int) = W * H) (ho : ∀ k, o k = true → 0 ≤ k ∧ k < W * H) (hz : o z = true) : ∀ n : Nat, (∀ k, flI W H o z (n + 1) k = flI W H o z n k) ∨ (n : Int) + 1 ≤ cnt (flI W H o z n) N
  | 0 => by
    right
    have hz2 := ho z hz
    have := cnt_lt (p := fun _ => false) (q := flI W H o z 0) (j := z.toNat) (by
      rw [show ((z.toNat : Nat) : Int) = z by omega]
      show (decide (z = z) && o z) = true
      rw [hz, decide_eq_true rfl]; rfl) rfl N (fun _ _ e => by cases e) (by omega)
    have c0 := (cnt_in (p := fun _ => false) N).1
    omega
  | n + 1 => by
    rcases flI_st hN ho hz n with h | h
    · left
      intro k
      have hf : flI W H o z (n + 1) = flI W H o z n := funext h
      show ((flI W H o z (n + 1) k || nbB W H (flI W H o z (n + 1)) k) && o k) = flI W H o z (n + 1) k
      rw [hf]
      exact h k
    · by_cases hs : ∀ k, flI W H o z (n + 1 + 1) k = flI W H o z (n + 1) k
      · left; exact hs
      · right
        have hne : ∃ k, flI W H o z (n + 1) k = true ∧ flI W H o z n k = false := by
          refine Classical.byContradiction fun hno => ?_
          have hf : flI W H o z (n + 1) = flI W H o z n := by
            funext k
            cases e : flI W H o z n k with
            | true => exact (flI_mo e).1
            | false =>
              cases e2 : flI W H o z (n + 1) k with
              | false => rfl
              | true => exact absurd ⟨k, e2, e⟩ hno
          apply hs
          intro k
          show ((flI W H o z (n + 1) k || nbB W H (flI W H o z (n + 1)) k) && o k) = flI W H o z (n + 1) k
          rw [hf]
          exact congrFun hf k
        obtain ⟨k, e1, e2⟩ := hne
        have hk := ho k (flI_mo e1).2
        have := cnt_lt (p := flI W H o z n) (q := flI W H o z (n + 1)) (j := k.toNat) (by rw [show ((k.toNat : Nat) : Int) = k by omega]; exact e1) (by rw [show ((k.toNat : Nat) : Int) = k by omega]; exact e2) N (fun j _ e => (flI_mo e).1) (by omega)
        omega
theorem flI_cl {W H z k d : Int} {o : Int → Bool} {N : Nat} (h : wh2 W H) (hN : (N : Int) = W * H) (ho : ∀ k, o k = true → 0 ≤ k ∧ k < W * H) (k0 : 0 ≤ k) (k1 : k < W * H) (d0 : 0 ≤ d) (d1 : d < 4) (hn : nbC W H k d ≠ -1) (hb : o (nbC W H k d) = true) (hk : flI W H o z 36 k = true) : flI W H o z 36 (nbC W H k d) = true := by
  have hm := wh_mul h
  have hz : o z = true := by
    cases e : o z with
    | true => rfl
    | false =>
      exfalso
      have : ∀ n j, flI W H o z n j = false := by
        intro n
        induction n with
        | zero =>
          intro j
          show (decide (j = z) && o j) = false
          by_cases e2 : j = z
          · rw [e2, e, Bool.and_false]
          · rw [decide_eq_false e2]; rfl
        | succ n ih =>
          intro j
          show ((flI W H o z n j || nbB W H (flI W H o z n) j) && o j) = false
          rw [ih j]
          unfold nbB nbE
          simp only [ih, Bool.and_false, Bool.or_false, Bool.false_and]
      rw [this] at hk
      cases hk
  have hst : ∀ j, flI W H o z 37 j = flI W H o z 36 j := by
    rcases flI_st hN ho hz 36 with a | a
    · exact a
    · exfalso
      have := (cnt_in (p := flI W H o z 36) N).2
      omega
  have hi := nb_in h k0 k1 hn
  have hs := nb_sym h k0 k1 d0 d1 hn
  rw [← hst]
  show ((flI W H o z 36 (nbC W H k d) || nbB W H (flI W H o z 36) (nbC W H k d)) && o (nbC W H k d)) = true
  rw [hb, Bool.and_true]
  have hnb : nbB W H (flI W H o z 36) (nbC W H k d) = true := by
    have he : nbE W H (flI W H o z 36) (nbC W H k d) (3 - d) = true := by
      unfold nbE
      rw [hs, hk, decide_eq_true (by omega : k ≠ -1)]
      rfl
    unfold nbB inB
    rw [decide_eq_true (by omega : 0 ≤ nbC W H k d ∧ nbC W H k d < W * H), Bool.true_and]
    have hd : d = 0 ∨ d = 1 ∨ d = 2 ∨ d = 3 := by omega
    rcases hd with e | e | e | e
    · rw [show (3 - d : Int) = 3 by omega] at he
      rw [he]; simp
    · rw [show (3 - d : Int) = 2 by omega] at he
      rw [he]; simp
    · rw [show (3 - d : Int) = 1 by omega] at he
      rw [he]; simp
    · rw [show (3 - d : Int) = 0 by omega] at he
      rw [he]; simp
  rw [hnb, Bool.or_true]
theorem nbB_ex {W H : Int} {q : Int → Bool} {k : Int} (h : nbB W H q k = true) : (0 ≤ k ∧ k < W * H) ∧ ∃ d : Int, 0 ≤ d ∧ d < 4 ∧ nbC W H k d ≠ -1 ∧ q (nbC W H k d) = true := by
  unfold nbB at h
  rw [Bool.and_eq_true] at h
  refine ⟨of_decide_eq_true h.1, ?_⟩
  have h2 := h.2
  unfold nbE at h2
  simp only [Bool.or_eq_true, Bool.and_eq_true, decide_eq_true_eq] at h2
  rcases h2 with ((e | e) | e) | e
  · exact ⟨0, by omega, by omega, e.1, e.2⟩
  · exact ⟨1, by omega, by omega, e.1, e.2⟩
  · exact ⟨2, by omega, by omega, e.1, e.2⟩
  · exact ⟨3, by omega, by omega, e.1, e.2⟩
theorem flI_dD {W H z k : Int} {o : Int → Bool} {c : Int → Int} {N : Nat} (h : wh2 W H) (hc : csIn c (W * H)) (hN : (N : Int) = W * H) (ho : ∀ k, o k = true → 0 ≤ k ∧ k < W * H) (hco : ∀ k, 0 ≤ k → k < W * H → (o k = true ↔ c k ≠ -1)) (z0 : 0 ≤ z) (z1 : z < W * H) (k0 : 0 ≤ k) (k1 : k < W * H) : flI W H o z 36 k = true ↔ dD W H c z N k < far := by
  have hm := wh_mul h
  have hfar : far = 1000000000 := rfl
  constructor
  · have : ∀ (n : Nat) (j : Int), flI W H o z n j = true → dD W H c z N j < far := by
      intro n
      induction n with
      | zero =>
        intro j hj
        have hj2 : (decide (j = z) && o j) = true := hj
        rw [Bool.and_eq_true, decide_eq_true_eq] at hj2
        rw [hj2.1, dD_0 h hc hN z0 z1 ((hco z z0 z1).mp (hj2.1 ▸ hj2.2))]
        omega
      | succ n ih =>
        intro j hj
        have hj2 : ((flI W H o z n j || nbB W H (flI W H o z n) j) && o j) = true := hj
        rw [Bool.and_eq_true, Bool.or_eq_true] at hj2
        obtain ⟨e | e, hoj⟩ := hj2
        · exact ih j e
        · obtain ⟨hj3, d, d0, d1, e1, e2⟩ := nbB_ex e
          have hi := nb_in h hj3.1 hj3.2 e1
          have hs := nb_sym h hj3.1 hj3.2 d0 d1 e1
          have hb := ih _ e2
          have hcj := (hco j hj3.1 hj3.2).mp hoj
          have a := (dD_gr (t := z) h hc hN).2.1 (nbC W H j d) (3 - d) hi.1 hi.2.1 (by omega) (by omega) (by rw [hs]; omega) (by rw [hs]; exact hcj)
          rw [hs] at a
          have b := hc j hj3.1 hj3.2
          rcases dD_bnd (z := z) h hc hN hi.1 (by omega : nbC W H j d < 36) with e3 | e3 <;> omega
    exact this 36 k
  · intro hf
    cases e : flI W H o z 36 k with
    | true => rfl
    | false =>
      exfalso
      have g := (dD_gr (t := z) h hc hN).2.2 (fun j => if flI W H o z 36 j then 0 else far) (fun j j0 j1 => by
        rw [std_at j0 (by omega)]
        by_cases e2 : j = z ∧ c z ≠ -1
        · rw [if_pos e2]
          have : flI W H o z 36 j = true := by
            have h0 : flI W H o z 0 j = true := by
              show (decide (j = z) && o j) = true
              rw [decide_eq_true e2.1, e2.1, (hco z z0 z1).mpr e2.2]
              rfl
            exact flI_up h0 36
          rw [if_pos this]
          omega
        · rw [if_neg e2]; split <;> omega) (fun j d j0 j1 d0 d1 hn hcn => by
        dsimp only
        have hi := nb_in h j0 j1 hn
        have hb := hc _ hi.1 hi.2.1
        by_cases e2 : flI W H o z 36 j = true
        · rw [if_pos e2, if_pos (flI_cl h hN ho j0 j1 d0 d1 hn ((hco _ hi.1 hi.2.1).mpr hcn) e2)]
          omega
        · rw [if_neg e2]; split <;> omega) k k0 k1
      rw [e] at g
      simp only [Bool.false_eq_true, if_false] at g
      omega
