/-! ===== least costs, whatever lay there before ===== -/
def agr (n : Int) (f f' : Int → Int) : Prop := ∀ k, 0 ≤ k → k < n → f k = f' k
theorem nr_congr {f f' : Int → Int} {q : Int → Bool} (h : agr 36 f f') (n : Nat) : n ≤ 36 → nr f q n = nr f' q n := by
  induction n with
  | zero => intro _; rfl
  | succ n ih =>
    intro hn
    simp only [nr]
    rw [ih (by omega), h n (by omega) (by omega)]
theorem rl1_congr {W H k d : Int} {c c' f f' : Int → Int} (h : wh2 W H) (hc : agr (W * H) c c') (hf : agr 36 f f') (k0 : 0 ≤ k) (k1 : k < W * H) : agr 36 (rl1 W H c k d f) (rl1 W H c' k d f') := by
  have hm := wh_mul h
  intro j j0 j1
  unfold rl1
  by_cases hn : nbC W H k d = -1
  · rw [if_pos (Or.inl hn), if_pos (Or.inl hn)]; exact hf j j0 j1
  · have hi := nb_in h k0 k1 hn
    rw [hc _ hi.1 hi.2.1]
    by_cases hx : nbC W H k d = -1 ∨ c' (nbC W H k d) = -1
    · rw [if_pos hx, if_pos hx]; exact hf j j0 j1
    · rw [if_neg hx, if_neg hx, hf _ hi.1 (by omega), hf k k0 (by omega)]
      by_cases hj : j = nbC W H k d
      · rw [hj, fu_s, fu_s]
      · rw [fu_n hj, fu_n hj]; exact hf j j0 j1
theorem rlx_congr {W H k : Int} {c c' f f' : Int → Int} (h : wh2 W H) (hc : agr (W * H) c c') (hf : agr 36 f f') (k0 : 0 ≤ k) (k1 : k < W * H) (n : Nat) : agr 36 (rlx W H c k f n) (rlx W H c' k f' n) := by
  induction n with
  | zero => exact hf
  | succ n ih => exact rl1_congr h hc ih k0 k1
theorem agr_fr {f f' : Int → Int} (h : agr 36 f f') (hf : frIn f) : frIn f' := fun k k0 k1 => by rw [← h k k0 k1]; exact hf k k0 k1
theorem dj_congr {W H : Int} {c c' : Int → Int} {N : Nat} {x x' : Dj} (h : wh2 W H) (hc : agr (W * H) c c') (hcs : csIn c (W * H)) (hN : (N : Int) = W * H) (hf : agr 36 x.1 x'.1) (hq : x.2.1 = x'.2.1) (hr : x.2.2.2 = 0) (hr' : x'.2.2.2 = 0) (hfr : frIn x.1) (n : Nat) : agr 36 (dj W H c N x n).1 (dj W H c' N x' n).1 ∧ (dj W H c N x n).2.1 = (dj W H c' N x' n).2.1 ∧ (dj W H c N x n).2.2.2 = (dj W H c' N x' n).2.2.2 := by
  have hm := wh_mul h
  induction n with
  | zero => exact ⟨hf, hq, by show x.2.2.2 = x'.2.2.2; rw [hr, hr']⟩
  | succ n ih =>
    obtain ⟨i1, i2, i3⟩ := ih
    have hin := (dj_in h hcs hN hfr hr n).1
    show agr 36 (djS W H c N (dj W H c N x n)).1 (djS W H c' N (dj W H c' N x' n)).1 ∧ (djS W H c N (dj W H c N x n)).2.1 = (djS W H c' N (dj W H c' N x' n)).2.1 ∧ (djS W H c N (dj W H c N x n)).2.2.2 = (djS W H c' N (dj W H c' N x' n)).2.2.2
    unfold djS
    have hnr : nr (dj W H c N x n).1 (dj W H c N x n).2.1 N = nr (dj W H c' N x' n).1 (dj W H c' N x' n).2.1 N := by rw [← i2]; exact nr_congr i1 N (by omega)
    have ok := nr_ok hin (q := (dj W H c N x n).2.1) N (by omega)
    rw [← hnr]
    by_cases hz : (nr (dj W H c N x n).1 (dj W H c N x n).2.1 N).2 = -1
    · rw [if_pos hz, if_pos hz]; exact ⟨i1, i2, i3⟩
    · rw [if_neg hz, if_neg hz]
      refine ⟨rlx_congr h hc i1 (by omega) (by omega) 4, ?_, ?_⟩
      · show (fun k => (dj W H c N x n).2.1 k || decide _) = (fun k => (dj W H c' N x' n).2.1 k || decide _)
        rw [i2]
      · show (dj W H c N x n).2.2.2 + 1 = (dj W H c' N x' n).2.2.2 + 1
        rw [i3]
/-- the least costs from a cell -/
def dD (W H : Int) (c : Int → Int) (z : Int) (N : Nat) : Int → Int := (spr W H c z N (fun _ => 0) (fun _ => 0)).1
theorem spr_dD {W H z : Int} {c c' g o : Int → Int} {N : Nat} (h : wh2 W H) (hc : agr (W * H) c c') (hcs : csIn c (W * H)) (hN : (N : Int) = W * H) (z0 : 0 ≤ z) (z1 : z < W * H) : agr 36 (spr W H c z N g o).1 (dD W H c' z N) := by
  refine (dj_congr (x := (std c z g, (fun _ => false), o, 0)) (x' := (std c' z (fun _ => 0), (fun _ => false), (fun _ => 0), 0)) h hc hcs hN ?_ rfl rfl rfl std_in N).1
  intro k k0 k1
  show std c z g k = std c' z (fun _ => 0) k
  unfold std
  have hb : ∀ g : Int → Int, fil g 36 far k = far := fun g => by unfold fil; rw [if_pos ⟨k0, k1⟩]
  rw [hc z z0 z1]
  by_cases hx : c' z = -1
  · rw [if_pos hx, if_pos hx, hb, hb]
  · rw [if_neg hx, if_neg hx]
    by_cases hk : k = z
    · rw [hk, fu_s, fu_s]
    · rw [fu_n hk, fu_n hk, hb, hb]
/-- no least cost is above what all cells cost -/
theorem dj_bnd {W H : Int} {c : Int → Int} {N : Nat} {x : Dj} (h : wh2 W H) (hcs : csIn c (W * H)) (hN : (N : Int) = W * H) (hr : x.2.2.2 = 0) (hfr : frIn x.1) (hx : ∀ k, 0 ≤ k → k < 36 → x.1 k < far → x.1 k = 0) (n : Nat) : ∀ k, 0 ≤ k → k < 36 → (dj W H c N x n).1 k < far → (dj W H c N x n).1 k ≤ 181 * (dj W H c N x n).2.2.2 := by
  have hm := wh_mul h
  induction n with
  | zero =>
    intro k k0 k1 hk
    have := hx k k0 k1 hk
    show x.1 k ≤ 181 * x.2.2.2
    omega
  | succ n ih =>
    have hin := dj_in h hcs hN hfr hr n
    have ok := nr_ok hin.1 (q := (dj W H c N x n).2.1) N (by omega)
    show ∀ k, 0 ≤ k → k < 36 → (djS W H c N (dj W H c N x n)).1 k < far → (djS W H c N (dj W H c N x n)).1 k ≤ 181 * (djS W H c N (dj W H c N x n)).2.2.2
    unfold djS
    by_cases hz : (nr (dj W H c N x n).1 (dj W H c N x n).2.1 N).2 = -1
    · rw [if_pos hz]; exact ih
    · rw [if_neg hz]
      have oz := ok.2.2.2.2.2.1 hz
      have hzb := ih (nr (dj W H c N x n).1 (dj W H c N x n).2.1 N).2 (by omega) (by omega) (by rw [oz.2.1]; exact oz.1)
      generalize (nr (dj W H c N x n).1 (dj W H c N x n).2.1 N).2 = z at *
      have key : ∀ m : Nat, (rlx W H c z (dj W H c N x n).1 m z = (dj W H c N x n).1 z) ∧ ∀ k, 0 ≤ k → k < 36 → rlx W H c z (dj W H c N x n).1 m k < far → rlx W H c z (dj W H c N x n).1 m k ≤ 181 * ((dj W H c N x n).2.2.2 + 1) := by
        intro m
        induction m with
        | zero =>
          refine ⟨rfl, fun k k0 k1 hk => ?_⟩
          have hk' : (dj W H c N x n).1 k < far := hk
          have := ih k k0 k1 hk'
          show (dj W H c N x n).1 k ≤ _
          omega
        | succ m ihm =>
          simp only [rlx]
          unfold rl1
          by_cases hn : nbC W H z m = -1 ∨ c (nbC W H z m) = -1
          · rw [if_pos hn]; exact ihm
          · rw [if_neg hn]
            have hnn : nbC W H z m ≠ -1 := fun w => hn (Or.inl w)
            have hi := nb_in h (by omega : 0 ≤ z) (by omega) hnn
            have hcn := hcs _ hi.1 hi.2.1
            refine ⟨by rw [fu_n (fun w => hi.2.2 w.symm)]; exact ihm.1, fun k k0 k1 hk => ?_⟩
            by_cases hk2 : k = nbC W H z m
            · rw [hk2, fu_s, ihm.1]
              omega
            · rw [fu_n hk2] at hk ⊢
              exact ihm.2 k k0 k1 hk
      exact (key 4).2
theorem dD_bnd {W H z : Int} {c : Int → Int} {N : Nat} (h : wh2 W H) (hcs : csIn c (W * H)) (hN : (N : Int) = W * H) {k : Int} (k0 : 0 ≤ k) (k1 : k < 36) : (0 ≤ dD W H c z N k ∧ dD W H c z N k ≤ 6516) ∨ dD W H c z N k = far := by
  have hm := wh_mul h
  have hin := dj_in h hcs hN (x := (std c z (fun _ => 0), (fun _ => false), (fun _ => 0), 0)) std_in rfl N
  have hb := dj_bnd h hcs hN (x := (std c z (fun _ => 0), (fun _ => false), (fun _ => 0), 0)) rfl std_in (by
    intro j j0 j1 hj
    have hj' : std c z (fun _ => 0) j < far := hj
    show std c z (fun _ => 0) j = 0
    unfold std at hj' ⊢
    have hbb : fil (fun _ => 0) 36 far j = far := by unfold fil; rw [if_pos ⟨j0, j1⟩]
    by_cases hx : c z = -1
    · rw [if_pos hx, hbb] at hj'; omega
    · rw [if_neg hx] at hj' ⊢
      by_cases hk : j = z
      · rw [hk, fu_s]
      · rw [fu_n hk, hbb] at hj'; omega) N k k0 k1
  have hi := hin.1 k k0 k1
  unfold dD spr
  by_cases hlt : (dj W H c N (std c z (fun _ => 0), (fun _ => false), (fun _ => 0), 0) N).1 k < far
  · left
    have := hb hlt
    have h3 := hin.2.2
    omega
  · right
    omega
