/-! ===== walks of just so long: bits and counts ===== -/
theorem nbB_iff {W H : Int} {q : Int → Bool} {k : Int} (k0 : 0 ≤ k) (k1 : k < W * H) : nbB W H q k = true ↔ ∃ d : Nat, d < 4 ∧ nbC W H k d ≠ -1 ∧ q (nbC W H k d) = true := by
  constructor
  · intro h
    obtain ⟨_, d, d0, d1, hn, hq⟩ := nbB_ex h
    refine ⟨d.toNat, by omega, ?_⟩
    rw [show ((d.toNat : Nat) : Int) = d by omega]
    exact ⟨hn, hq⟩
  · rintro ⟨d, hd, hn, hq⟩
    have he : nbE W H q k d = true := by
      unfold nbE
      rw [hq, decide_eq_true hn]
      rfl
    unfold nbB inB
    rw [decide_eq_true (show 0 ≤ k ∧ k < W * H from ⟨k0, k1⟩), Bool.true_and]
    have c1 : d = 0 ∨ d = 1 ∨ d = 2 ∨ d = 3 := by omega
    rcases c1 with e | e | e | e
    · subst e; rw [show nbE W H q k 0 = true from he]; simp
    · subst e; rw [show nbE W H q k 1 = true from he]; simp
    · subst e; rw [show nbE W H q k 2 = true from he]; simp
    · subst e; rw [show nbE W H q k 3 = true from he]; simp
theorem th_cm {W H a : Int} {c : Int → Int} (h : wh2 W H) : ∀ (N s : Nat), s ≤ N → ∀ k, 0 ≤ k → k < W * H → (th W H c a s k = true ↔ 0 < cm W H c a (-1) s k)
  | N, 0, _, k, k0, k1 => by
    rw [cm_0, if_neg (by omega)]
    show decide (k = a) = true ↔ _
    rw [decide_eq_true_iff]
    by_cases e : k = a
    · rw [if_pos e]; exact ⟨fun _ => Nat.one_pos, fun _ => e⟩
    · rw [if_neg e]; exact ⟨fun t => absurd t e, fun t => absurd t (Nat.lt_irrefl 0)⟩
  | 0, s + 1, hs, _, _, _ => by omega
  | N + 1, s + 1, hs, k, k0, k1 => by
    rw [th_s, cm_s, if_neg (show ¬ k = -1 by omega)]
    by_cases hc : 1 ≤ c k ∧ c k ≤ s + 1
    · rw [if_pos hc, decide_eq_true hc, Bool.true_and, nbB_iff k0 k1, sm4_pos]
      refine exists_congr fun d => and_congr Iff.rfl ?_
      constructor
      · rintro ⟨hn, hq⟩
        have hi := nb_in h k0 k1 hn
        exact ⟨hn, (th_cm h N _ (by omega) _ hi.1 hi.2.1).mp hq⟩
      · rintro ⟨hn, hq⟩
        have hi := nb_in h k0 k1 hn
        exact ⟨hn, (th_cm h N _ (by omega) _ hi.1 hi.2.1).mpr hq⟩
    · rw [if_neg hc, decide_eq_false hc, Bool.false_and]
      exact ⟨fun t => Bool.noConfusion t, fun t => absurd t (Nat.lt_irrefl 0)⟩
theorem tc_gm {W H z : Int} {c : Int → Int} (h : wh2 W H) : ∀ (N s : Nat), s ≤ N → ∀ k, 0 ≤ k → k < W * H → (tc W H c z s k = true ↔ 0 < gm W H c z s k)
  | N, 0, _, k, k0, k1 => by
    rw [gm_0]
    show decide (k = z) = true ↔ _
    rw [decide_eq_true_iff]
    by_cases e : k = z
    · rw [if_pos e]; exact ⟨fun _ => Nat.one_pos, fun _ => e⟩
    · rw [if_neg e]; exact ⟨fun t => absurd t e, fun t => absurd t (Nat.lt_irrefl 0)⟩
  | 0, s + 1, hs, _, _, _ => by omega
  | N + 1, s + 1, hs, k, k0, k1 => by
    rw [tc_s, gm_s, nbB_iff k0 k1, sm4_pos]
    refine exists_congr fun d => and_congr Iff.rfl ?_
    have key : nbC W H k d ≠ -1 → ((decide (1 ≤ c (nbC W H k d) ∧ c (nbC W H k d) ≤ s + 1) && tc W H c z (s + 1 - (c (nbC W H k d)).toNat) (nbC W H k d)) = true ↔ 0 < if 1 ≤ c (nbC W H k d) ∧ c (nbC W H k d) ≤ s + 1 then gm W H c z (s + 1 - (c (nbC W H k d)).toNat) (nbC W H k d) else 0) := by
      intro hn
      have hi := nb_in h k0 k1 hn
      generalize nbC W H k d = b at hi ⊢
      by_cases hc : 1 ≤ c b ∧ c b ≤ s + 1
      · rw [if_pos hc, decide_eq_true hc, Bool.true_and]
        exact tc_gm h N _ (by omega) b hi.1 hi.2.1
      · rw [if_neg hc, decide_eq_false hc, Bool.false_and]
        exact ⟨fun t => Bool.noConfusion t, fun t => absurd t (Nat.lt_irrefl 0)⟩
    exact ⟨fun ⟨hn, hq⟩ => ⟨hn, (key hn).mp hq⟩, fun ⟨hn, hq⟩ => ⟨hn, (key hn).mpr hq⟩⟩
theorem sm4_mo {W H z : Int} {f f' : Int → Nat} (h : wh2 W H) (z0 : 0 ≤ z) (z1 : z < W * H) (he : ∀ k, 0 ≤ k → k < W * H → f k ≤ f' k) : ∀ n : Nat, sm4 W H f z n ≤ sm4 W H f' z n
  | 0 => Nat.le_refl 0
  | n + 1 => by
    have ih := sm4_mo h z0 z1 he n
    simp only [sm4]
    by_cases hn : nbC W H z n = -1
    · rw [if_pos hn, if_pos hn]; omega
    · have hi := nb_in h z0 z1 hn
      have := he _ hi.1 hi.2.1
      rw [if_neg hn, if_neg hn]; omega
theorem cm_av {W H a av : Int} {c : Int → Int} (h : wh2 W H) : ∀ (N s : Nat), s ≤ N → ∀ k, 0 ≤ k → k < W * H → cm W H c a av s k ≤ cm W H c a (-1) s k
  | N, 0, _, k, k0, k1 => by
    rw [cm_0, cm_0, if_neg (show ¬ k = -1 by omega)]
    split
    · exact Nat.zero_le _
    · exact Nat.le_refl _
  | 0, s + 1, hs, _, _, _ => by omega
  | N + 1, s + 1, hs, k, k0, k1 => by
    rw [cm_s, cm_s, if_neg (show ¬ k = -1 by omega)]
    split
    · exact Nat.zero_le _
    · by_cases hc : 1 ≤ c k ∧ c k ≤ s + 1
      · rw [if_pos hc, if_pos hc]
        exact sm4_mo h k0 k1 (fun j j0 j1 => cm_av h N _ (by omega) j j0 j1) 4
      · rw [if_neg hc, if_neg hc]; exact Nat.le_refl _
theorem cm_cg {W H a av : Int} {c c' : Int → Int} (h : wh2 W H) (hc : agr (W * H) c c') : ∀ (N s : Nat), s ≤ N → ∀ k, 0 ≤ k → k < W * H → cm W H c a av s k = cm W H c' a av s k
  | N, 0, _, k, k0, k1 => rfl
  | 0, s + 1, hs, _, _, _ => by omega
  | N + 1, s + 1, hs, k, k0, k1 => by
    rw [cm_s, cm_s, hc k k0 k1]
    split
    · rfl
    · by_cases hk : 1 ≤ c' k ∧ c' k ≤ s + 1
      · rw [if_pos hk, if_pos hk]
        exact sm4_cg h k0 k1 (fun j j0 j1 => cm_cg h hc N _ (by omega) j j0 j1) 4
      · rw [if_neg hk, if_neg hk]
theorem gm_cg {W H z : Int} {c c' : Int → Int} (h : wh2 W H) (hc : agr (W * H) c c') : ∀ (N s : Nat), s ≤ N → ∀ k, 0 ≤ k → k < W * H → gm W H c z s k = gm W H c' z s k
  | N, 0, _, k, k0, k1 => rfl
  | 0, s + 1, hs, _, _, _ => by omega
  | N + 1, s + 1, hs, k, k0, k1 => by
    rw [gm_s, gm_s]
    refine sm4_cg h k0 k1 (fun b b0 b1 => ?_) 4
    show (if 1 ≤ c b ∧ c b ≤ (s : Int) + 1 then gm W H c z (s + 1 - (c b).toNat) b else 0) = if 1 ≤ c' b ∧ c' b ≤ (s : Int) + 1 then gm W H c' z (s + 1 - (c' b).toNat) b else 0
    rw [hc b b0 b1]
    by_cases hk : 1 ≤ c' b ∧ c' b ≤ (s : Int) + 1
    · rw [if_pos hk, if_pos hk]
      exact gm_cg h hc N _ (by omega) b b0 b1
    · rw [if_neg hk, if_neg hk]
/-- one step back, one may still come -/
theorem tc_back {W H z k : Int} {c : Int → Int} {t s d : Nat} (h : wh2 W H) (k0 : 0 ≤ k) (k1 : k < W * H) (hd : d < 4) (hn : nbC W H k d ≠ -1) (c1 : 1 ≤ c k) (c2 : c k ≤ s) (st : s ≤ t) (hk : tc W H c z (t - s) k = true) : tc W H c z (t - (s - (c k).toNat)) (nbC W H k d) = true := by
  have hi := nb_in h k0 k1 hn
  have sy := nb_sym (d := (d : Int)) h k0 k1 (by omega) (by omega) hn
  obtain ⟨m, hm⟩ : ∃ m, t - (s - (c k).toNat) = m + 1 := ⟨t - (s - (c k).toNat) - 1, by omega⟩
  rw [hm, tc_s, nbB_iff hi.1 hi.2.1]
  refine ⟨(3 - (d : Int)).toNat, by omega, ?_⟩
  rw [show (((3 - (d : Int)).toNat : Nat) : Int) = 3 - (d : Int) by omega, sy]
  refine ⟨by omega, ?_⟩
  rw [decide_eq_true (show 1 ≤ c k ∧ c k ≤ (m : Int) + 1 by omega), Bool.true_and, show m + 1 - (c k).toNat = t - s by omega]
  exact hk
theorem mbI_sm {W H b z : Int} {M : Int → Int} {f : Int → Nat} (hM : ∀ d : Nat, d < 4 → nbC W H z d ≠ -1 → i64 (M (36 * b + nbC W H z d)) = i64 (f (nbC W H z d) : Nat)) : ∀ n : Nat, n ≤ 4 → mbI W H M b z n = i64 (sm4 W H f z n : Nat)
  | 0, _ => rfl
  | n + 1, hn => by
    have ih := mbI_sm hM n (by omega)
    simp only [mbI, sm4]
    by_cases e : nbC W H z n = -1
    · rw [if_pos e, if_pos e, ih, Nat.add_zero]
    · rw [if_neg e, if_neg e, ih, hM n (by omega) e, i64_add]
      congr 1
theorem cw_cm {W H a z av : Int} {c : Int → Int} {t : Nat} (h : wh2 W H) : ∀ (N s : Nat), s ≤ N → s ≤ t → ∀ k, 0 ≤ k → k < W * H → tc W H c z (t - s) k = true → cw W H c (lvB W H c a z t av) s k = i64 (cm W H c a av s k : Nat)
  | N, 0, _, _, k, k0, k1, hk => by
    show (if lvB W H c a z t av 0 k then i64 1 else i64 0) = _
    have le : lvB W H c a z t av 0 k = (decide (k = a) && decide (k ≠ av)) := by
      show ((decide (k = a) && tc W H c z (t - 0) k) && decide (k ≠ av)) = _
      rw [hk, Bool.and_true]
    rw [le, cm_0]
    by_cases e1 : k = av
    · rw [if_pos e1, decide_eq_false (p := k ≠ av) (fun t => t e1), Bool.and_false]; rfl
    · rw [if_neg e1, decide_eq_true (p := k ≠ av) e1, Bool.and_true]
      by_cases e2 : k = a
      · rw [if_pos e2, decide_eq_true e2]; rfl
      · rw [if_neg e2, decide_eq_false e2]; rfl
  | 0, s + 1, hs, _, _, _, _, _ => by omega
  | N + 1, s + 1, hs, st, k, k0, k1, hk => by
    have hm := wh_mul h
    have e := cw_s (c := c) (lv := lvB W H c a z t av) (M := fun x => (cw W H c (lvB W H c a z t av) (x / 36).toNat (x % 36)).toInt) h (n := s) k0 k1 (fun s' j _ j0 j1 => by
      rw [i64_toInt, show ((36 * (s' : Int) + j) / 36).toNat = s' by omega, show (36 * (s' : Int) + j) % 36 = j by omega])
    rw [e, cm_s]
    have lvE : lvB W H c a z t av (s + 1) k = (th W H c a (s + 1) k && decide (k ≠ av)) := by
      show ((th W H c a (s + 1) k && tc W H c z (t - (s + 1)) k) && decide (k ≠ av)) = _
      rw [hk, Bool.and_true]
    rw [lvE]
    by_cases e1 : k = av
    · rw [if_pos e1, decide_eq_false (fun t => t e1), Bool.and_false]; rfl
    · rw [if_neg e1, decide_eq_true e1, Bool.and_true]
      cases hth : th W H c a (s + 1) k with
      | false =>
        have z0 : ¬ 0 < cm W H c a (-1) (s + 1) k := fun t => by
          have := (th_cm h (s + 1) (s + 1) (Nat.le_refl _) k k0 k1).mpr t
          rw [hth] at this
          exact Bool.noConfusion this
        have z1 := cm_av (c := c) (a := a) (av := av) h (s + 1) (s + 1) (Nat.le_refl _) k k0 k1
        rw [cm_s (av := av), if_neg e1] at z1
        rw [show (if 1 ≤ c k ∧ c k ≤ (s : Int) + 1 then sm4 W H (cm W H c a av (s + 1 - (c k).toNat)) k 4 else 0) = 0 by omega]
        rfl
      | true =>
        rw [if_pos rfl]
        unfold mbV
        rw [if_neg (show ¬ ((s + 1 : Nat) : Int) = 0 by omega), show ((s + 1 : Nat) : Int) = (s : Int) + 1 by omega]
        by_cases hc : 1 ≤ c k ∧ c k ≤ (s : Int) + 1
        · rw [if_pos hc, if_pos hc]
          refine mbI_sm (fun d hd hn => ?_) 4 (Nat.le_refl 4)
          have hi := nb_in h k0 k1 hn
          show i64 (cw W H c (lvB W H c a z t av) ((36 * ((s : Int) + 1 - c k) + nbC W H k d) / 36).toNat ((36 * ((s : Int) + 1 - c k) + nbC W H k d) % 36)).toInt = _
          rw [i64_toInt, show ((36 * ((s : Int) + 1 - c k) + nbC W H k d) / 36).toNat = s + 1 - (c k).toNat by omega, show (36 * ((s : Int) + 1 - c k) + nbC W H k d) % 36 = nbC W H k d by omega]
          refine cw_cm h N (s + 1 - (c k).toNat) (by omega) (by omega) _ hi.1 hi.2.1 ?_
          exact tc_back h k0 k1 hd hn hc.1 (by omega) st hk
        · rw [if_neg hc, if_neg hc]
          rfl
theorem cm_no {W H a z x : Int} {c : Int → Int} {t : Nat} (h : wh2 W H) (x0 : 0 ≤ x) (hx : ∀ n : Nat, n ≤ t → ¬ (th W H c a n x = true ∧ tc W H c z (t - n) x = true)) : ∀ (N s : Nat), s ≤ N → s ≤ t → ∀ k, 0 ≤ k → k < W * H → tc W H c z (t - s) k = true → cm W H c a x s k = cm W H c a (-1) s k := by
  have at_x : ∀ s : Nat, s ≤ t → x < W * H → tc W H c z (t - s) x = true → cm W H c a x s x = cm W H c a (-1) s x := by
    intro s st x1 hk
    have z0 : ¬ 0 < cm W H c a (-1) s x := fun t => hx s st ⟨(th_cm h s s (Nat.le_refl _) x x0 x1).mpr t, hk⟩
    have := cm_av (c := c) (a := a) (av := x) h s s (Nat.le_refl _) x x0 x1
    omega
  intro N
  induction N with
  | zero =>
    intro s hs st k k0 k1 hk
    have hs : s = 0 := by omega
    subst hs
    by_cases e : k = x
    · subst e; exact at_x 0 st k1 hk
    · rw [cm_0, cm_0, if_neg e, if_neg (show ¬ k = -1 by omega)]
  | succ N ih =>
    intro s hs st k k0 k1 hk
    by_cases e : k = x
    · subst e; exact at_x s st k1 hk
    · cases s with
      | zero => rw [cm_0, cm_0, if_neg e, if_neg (show ¬ k = -1 by omega)]
      | succ s =>
        rw [cm_s, cm_s, if_neg e, if_neg (show ¬ k = -1 by omega)]
        by_cases hc : 1 ≤ c k ∧ c k ≤ (s : Int) + 1
        · rw [if_pos hc, if_pos hc]
          have : ∀ n : Nat, n ≤ 4 → sm4 W H (cm W H c a x (s + 1 - (c k).toNat)) k n = sm4 W H (cm W H c a (-1) (s + 1 - (c k).toNat)) k n := by
            intro n
            induction n with
            | zero => intro _; rfl
            | succ n ihn =>
              intro hn4
              simp only [sm4]
              rw [ihn (by omega)]
              by_cases hn : nbC W H k n = -1
              · rw [if_pos hn, if_pos hn]
              · have hi := nb_in h k0 k1 hn
                rw [if_neg hn, if_neg hn, ih (s + 1 - (c k).toNat) (by omega) (by omega) _ hi.1 hi.2.1 (tc_back h k0 k1 (by omega) hn hc.1 (by omega) st hk)]
          exact this 4 (Nat.le_refl 4)
        · rw [if_neg hc, if_neg hc]
theorem cm_a {W H a : Int} {c : Int → Int} (h : wh2 W H) : ∀ (N s : Nat), s ≤ N → ∀ k, 0 ≤ k → k < W * H → cm W H c a a s k = 0
  | N, 0, _, k, k0, k1 => by
    rw [cm_0]
    by_cases e : k = a
    · rw [if_pos e]
    · rw [if_neg e, if_neg e]
  | 0, s + 1, hs, _, _, _ => by omega
  | N + 1, s + 1, hs, k, k0, k1 => by
    rw [cm_s]
    split
    · rfl
    · by_cases hc : 1 ≤ c k ∧ c k ≤ s + 1
      · rw [if_pos hc]
        have := sm4_le (f := cm W H c a a (s + 1 - (c k).toNat)) (b := 0) h k0 k1 (fun j j0 j1 => by rw [cm_a h N _ (by omega) j j0 j1]; exact Nat.le_refl 0) 4
        omega
      · rw [if_neg hc]
theorem cm_av0 {W H a av : Int} {c : Int → Int} (s : Nat) : cm W H c a av s av = 0 := by
  cases s with
  | zero => rw [cm_0, if_pos rfl]
  | succ s => rw [cm_s, if_pos rfl]
theorem psI_no {W H a z x : Int} {c : Int → Int} {t : Nat} : ∀ n : Nat, psI W H c a z t n x = false → ∀ m : Nat, m < n → ¬ (th W H c a m x = true ∧ tc W H c z (t - m) x = true)
  | 0, _, m, hm => absurd hm (Nat.not_lt_zero m)
  | n + 1, h, m, hm => by
    have h' : (psI W H c a z t n x || (th W H c a n x && tc W H c z (t - n) x)) = false := h
    rw [Bool.or_eq_false_iff] at h'
    by_cases e : m = n
    · rw [e]
      rintro ⟨p, q⟩
      rw [p, q] at h'
      exact Bool.noConfusion h'.2
    · exact psI_no n h'.1 m (by omega)
theorem cb_th {W H a z x : Int} {c : Int → Int} {t : Nat} (h : wh2 W H) (z0 : 0 ≤ z) (z1 : z < W * H) (x0 : 0 ≤ x) : cbA W H c a z t (i64 (cm W H c a (-1) t z : Nat)) x = i64 (cm W H c a (-1) t z : Nat) - i64 (cm W H c a x t z : Nat) := by
  have tz : tc W H c z (t - t) z = true := by
    rw [Nat.sub_self]
    exact decide_eq_true rfl
  have s0 : ∀ y : Int64, y - i64 0 = y := fun y => Int64.sub_zero y
  unfold cbA
  cases e : psI W H c a z t (t + 1) x with
  | false =>
    rw [if_neg Bool.false_ne_true, cm_no h x0 (fun n hn => psI_no (t + 1) e n (by omega)) t t (Nat.le_refl _) (Nat.le_refl _) z z0 z1 tz]
    exact (Int64.sub_self _).symm
  | true =>
    rw [if_pos rfl]
    by_cases e2 : x = a ∨ x = z
    · rw [if_pos e2]
      rcases e2 with e2 | e2
      · rw [e2, cm_a h t t (Nat.le_refl _) z z0 z1]; exact (s0 _).symm
      · rw [e2, cm_av0]; exact (s0 _).symm
    · rw [if_neg e2, cw_cm h t t (Nat.le_refl _) (Nat.le_refl _) z z0 z1 tz]
