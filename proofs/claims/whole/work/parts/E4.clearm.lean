/-! ===== cleared: mathematics of one level ===== -/
def clR (W H : Int) (N : Nat) (kd c f : Int → Int) : Nat → Int → Int
  | 0 => f
  | n + 1 => (dj W H c N (cp (clr W H kd (clR W H N kd c f n)) (clR W H N kd c f n) N, (fun _ => false), (fun _ => 0), 0) N).1
/-- kinds and prices: what is no wall is a hedge or costs one -/
def kdC (kd c : Int → Int) (M : Int) : Prop := ∀ z, 0 ≤ z → z < M → (hgB kd z = true → c z ≠ -1) ∧ (c z ≠ -1 → hgB kd z = true ∨ c z = 1)
def bnR (y : Int → Int) (M : Int) : Prop := ∀ z, 0 ≤ z → z < M → (0 ≤ y z ∧ y z ≤ 6516) ∨ y z = far
theorem clr_le {W H z : Int} {kd y : Int → Int} : clr W H kd y z ≤ y z := by
  unfold clr
  split
  · exact (lfb_up 4).1
  · exact Int.le_refl _
theorem clv {W H : Int} {kd c y y' : Int → Int} (h : wh2 W H) (hc : csIn c (W * H)) (hk : kdC kd c (W * H)) (hb : bnR y (W * H)) (hy : cl1 W H c y) (hg : gr1 W H c (clr W H kd y) y') : bnR y' (W * H) ∧ (∀ z, 0 ≤ z → z < W * H → y' z ≤ y z) ∧ ∀ z, 0 ≤ z → z < W * H → y z < far → y' z ≤ 6516 := by
  have hfar : far = 1000000000 := rfl
  have le : ∀ z, 0 ≤ z → z < W * H → y' z ≤ y z := fun z z0 z1 => Int.le_trans (hg.1 z z0 z1) clr_le
  have g0 : ∀ z, 0 ≤ z → z < W * H → (if y z < far then 0 else far) ≤ y' z := by
    refine hg.2.2 (fun z => if y z < far then 0 else far) (fun z z0 z1 => ?_) (fun k d k0 k1 d0 d1 hn hcn => ?_)
    · have bz := hb z z0 z1
      show (if y z < far then 0 else far) ≤ clr W H kd y z
      unfold clr
      cases e : hgB kd z with
      | false =>
        rw [if_neg Bool.false_ne_true]
        split <;> omega
      | true =>
        rw [if_pos rfl]
        rcases lfb_by (W := W) (H := H) (z := z) (pr := 1) (v := y z) (g := y) 4 with e2 | ⟨d, hd, hn, e2⟩
        · rw [e2]; split <;> omega
        · rw [e2]
          have hi := nb_in h z0 z1 hn
          have bn := hb _ hi.1 hi.2.1
          have sy := nb_sym (d := (d : Int)) h z0 z1 (by omega) (by omega) hn
          have cz := (hk z z0 z1).1 e
          have cl := hy (nbC W H z d) (3 - d) hi.1 hi.2.1 (by omega) (by omega) (by rw [sy]; omega) (by rw [sy]; exact cz)
          rw [sy] at cl
          have cz2 := hc z z0 z1
          split <;> omega
    · have hi := nb_in h k0 k1 hn
      have bk := hb k k0 k1
      have bn := hb _ hi.1 hi.2.1
      have cl := hy k d k0 k1 d0 d1 hn hcn
      have cn := hc _ hi.1 hi.2.1
      show (if y (nbC W H k d) < far then 0 else far) ≤ (if y k < far then 0 else far) + c (nbC W H k d)
      generalize nbC W H k d = b at bn cl cn hcn ⊢
      by_cases e1 : y k < far
      · rw [if_pos e1, if_pos (by omega)]; omega
      · rw [if_neg e1]; split <;> omega
  refine ⟨fun z z0 z1 => ?_, le, fun z z0 z1 zf => ?_⟩
  · have bz := hb z z0 z1
    have a := g0 z z0 z1
    have b := le z z0 z1
    by_cases e1 : y z < far
    · rw [if_pos e1] at a; exact Or.inl (by omega)
    · rw [if_neg e1] at a; exact Or.inr (by omega)
  · have bz := hb z z0 z1
    have b := le z z0 z1
    omega
theorem clR_ok {W H : Int} {N : Nat} {kd c f : Int → Int} (h : wh2 W H) (hN : (N : Int) = W * H) (hc : csIn c (W * H)) (hk : kdC kd c (W * H)) (hb : bnR f (W * H)) (hf : frIn f) (hy : cl1 W H c f) : ∀ n : Nat, (bnR (clR W H N kd c f n) (W * H) ∧ frIn (clR W H N kd c f n) ∧ cl1 W H c (clR W H N kd c f n)) ∧ gr1 W H c (clr W H kd (clR W H N kd c f n)) (clR W H N kd c f (n + 1)) := by
  have step : ∀ n : Nat, bnR (clR W H N kd c f n) (W * H) → frIn (clR W H N kd c f n) → cl1 W H c (clR W H N kd c f n) → gr1 W H c (clr W H kd (clR W H N kd c f n)) (clR W H N kd c f (n + 1)) ∧ frIn (clR W H N kd c f (n + 1)) := by
    intro n a1 a2 a3
    have hm := wh_mul h
    have fr : frIn (cp (clr W H kd (clR W H N kd c f n)) (clR W H N kd c f n) N) := cp_fr a2 (fun z z0 z1 => clr_in h a2 z0 (by omega))
    have g := dj_gr (o := fun _ => 0) h hc hN fr
    have cpe : ∀ k : Int, 0 ≤ k → k < W * H → cp (clr W H kd (clR W H N kd c f n)) (clR W H N kd c f n) N k = clr W H kd (clR W H N kd c f n) k := fun k k0 k1 => by
      unfold cp
      rw [if_pos ⟨k0, by omega⟩]
    refine ⟨⟨fun k k0 k1 => ?_, g.2.1, fun g' hg' hcl => g.2.2 g' (fun k k0 k1 => ?_) hcl⟩, ?_⟩
    · rw [← cpe k k0 k1]; exact g.1 k k0 k1
    · rw [cpe k k0 k1]; exact hg' k k0 k1
    · exact (dj_in (x := (cp (clr W H kd (clR W H N kd c f n)) (clR W H N kd c f n) N, (fun _ => false), (fun _ => 0), 0)) h hc hN fr rfl N).1
  intro n
  induction n with
  | zero => exact ⟨⟨hb, hf, hy⟩, (step 0 hb hf hy).1⟩
  | succ n ih =>
    have s := step n ih.1.1 ih.1.2.1 ih.1.2.2
    have b := clv h hc hk ih.1.1 ih.1.2.2 s.1
    exact ⟨⟨b.1, s.2, s.1.2.1⟩, (step (n + 1) b.1 s.2 s.1.2.1).1⟩
/-- between what was and what must come -/
def bcI (W H : Int) (y y' D : Int → Int) : Prop := ∀ z, 0 ≤ z → z < W * H → (y z = far → D z = hiR) ∧ (y z < far → y' z ≤ D z ∧ D z ≤ y z)
theorem bcI_0 {W H : Int} {y y' : Int → Int} (hb : bnR y (W * H)) (hle : ∀ z, 0 ≤ z → z < W * H → y' z ≤ y z) : bcI W H y y' (fun z => rf (y z)) := fun z z0 z1 => by
  have hfar : far = 1000000000 := rfl
  have bz := hb z z0 z1
  have l := hle z z0 z1
  show (y z = far → rf (y z) = hiR) ∧ (y z < far → y' z ≤ rf (y z) ∧ rf (y z) ≤ y z)
  refine ⟨fun e => by unfold rf; rw [if_neg (by omega)], fun e => ?_⟩
  rw [show rf (y z) = y z from if_pos e]
  exact ⟨l, Int.le_refl _⟩
theorem bc_s {W H k e : Int} {kd c y y' D : Int → Int} (h : wh2 W H) (hc : csIn c (W * H)) (hk : kdC kd c (W * H)) (hb : bnR y (W * H)) (hy : cl1 W H c y) (hg : gr1 W H c (clr W H kd y) y') (hI : bcI W H y y' D) (k0 : 0 ≤ k) (k1 : k < W * H) (e0 : 0 ≤ e) (e1 : e < 4) (hn : bsC W H k e ≠ -1) (hcb : c (bsC W H k e) ≠ -1) (hl : min (D k + c (bsC W H k e)) (rf (y k) + 1) < D (bsC W H k e)) : bcI W H y y' (fu D (bsC W H k e) (min (D k + c (bsC W H k e)) (rf (y k) + 1))) := by
  have hfar : far = 1000000000 := rfl
  have hhi : hiR = 536870912 := rfl
  have rd := rd_in e0 e1
  have hi := nb_in h k0 k1 hn
  have sy := nb_sym (d := rdD e) h k0 k1 rd.1 rd.2 hn
  have cl := hy k (rdD e) k0 k1 rd.1 rd.2 hn hcb
  have cl' := hg.2.1 k (rdD e) k0 k1 rd.1 rd.2 hn hcb
  have up := hg.1 _ hi.1 hi.2.1
  have kb := (hk _ hi.1 hi.2.1).2 hcb
  have cb := hc _ hi.1 hi.2.1
  have bb := hb _ hi.1 hi.2.1
  have Ib := hI _ hi.1 hi.2.1
  have le' := Int.le_trans (hg.1 k k0 k1) clr_le
  have bk := hb k k0 k1
  have Ik := hI k k0 k1
  have lf : hgB kd (nbC W H k (rdD e)) = true → y' (nbC W H k (rdD e)) ≤ y k + 1 := fun e2 => by
    unfold clr at up
    rw [if_pos e2] at up
    have := (lfb_up (W := W) (H := H) (z := nbC W H k (rdD e)) (pr := 1) (v := y (nbC W H k (rdD e))) (g := y) 4).2 (3 - rdD e).toNat (by omega)
    rw [show (((3 - rdD e).toNat : Nat) : Int) = 3 - rdD e by omega, sy] at this
    have := this (by omega)
    omega
  show bcI W H y y' (fu D (nbC W H k (rdD e)) (min (D k + c (nbC W H k (rdD e))) (rf (y k) + 1)))
  replace hl : min (D k + c (nbC W H k (rdD e))) (rf (y k) + 1) < D (nbC W H k (rdD e)) := hl
  replace hcb : c (nbC W H k (rdD e)) ≠ -1 := hcb
  generalize nbC W H k (rdD e) = b at hi cl cl' up kb cb bb Ib lf hl hcb ⊢
  have yk : y k < far := by
    rcases bk with bk | bk
    · omega
    · have Dk := Ik.1 bk
      rw [show rf (y k) = hiR by unfold rf; rw [if_neg (by omega)]] at hl
      rcases bb with bb | bb
      · have := Ib.2 (by omega); omega
      · have := Ib.1 bb; omega
  rw [show rf (y k) = y k from if_pos yk] at hl ⊢
  have Dk := Ik.2 yk
  have yb : y b < far := by omega
  have Db := Ib.2 yb
  intro z z0 z1
  by_cases ez : z = b
  · subst ez
    rw [fu_s]
    refine ⟨fun e => by omega, fun _ => ⟨?_, by omega⟩⟩
    rcases kb with kb | kb
    · have := lf kb; omega
    · omega
  · rw [fu_n ez]; exact hI z z0 z1
def nlC (W H : Int) (c y D : Int → Int) (k e : Int) : Prop := bsC W H k e = -1 ∨ c (bsC W H k e) = -1 ∨ D (bsC W H k e) ≤ min (D k + c (bsC W H k e)) (rf (y k) + 1)
theorem bc_end {W H : Int} {kd c y y' D : Int → Int} (h : wh2 W H) (hc : csIn c (W * H)) (hk : kdC kd c (W * H)) (hb : bnR y (W * H)) (hy : cl1 W H c y) (hg : gr1 W H c (clr W H kd y) y') (hI : bcI W H y y' D) (hE : ∀ k e, 0 ≤ k → k < W * H → 0 ≤ e → e < 4 → nlC W H c y D k e) : ∀ z, 0 ≤ z → z < W * H → D z = rf (y' z) := by
  have hfar : far = 1000000000 := rfl
  have hhi : hiR = 536870912 := rfl
  have b' := clv h hc hk hb hy hg
  have fw : ∀ k d : Int, 0 ≤ k → k < W * H → 0 ≤ d → d < 4 → nbC W H k d ≠ -1 → c (nbC W H k d) ≠ -1 → D (nbC W H k d) ≤ min (D k + c (nbC W H k d)) (rf (y k) + 1) := by
    intro k d k0 k1 d0 d1 hn hcn
    obtain ⟨e, e0, e1, he⟩ := rd_inv d0 d1
    have a := hE k e k0 k1 e0 e1
    unfold nlC bsC at a
    rw [he] at a
    rcases a with a | a | a
    · exact absurd a hn
    · exact absurd a hcn
    · exact a
  have up : ∀ z, 0 ≤ z → z < W * H → (if y z < far then D z else far) ≤ y' z := by
    refine hg.2.2 (fun z => if y z < far then D z else far) (fun z z0 z1 => ?_) (fun k d k0 k1 d0 d1 hn hcn => ?_)
    · have bz := hb z z0 z1
      have Iz := hI z z0 z1
      show (if y z < far then D z else far) ≤ clr W H kd y z
      unfold clr
      cases e : hgB kd z with
      | false =>
        rw [if_neg Bool.false_ne_true]
        by_cases e1 : y z < far
        · rw [if_pos e1]; exact (Iz.2 e1).2
        · rw [if_neg e1]; omega
      | true =>
        rw [if_pos rfl]
        rcases lfb_by (W := W) (H := H) (z := z) (pr := 1) (v := y z) (g := y) 4 with e2 | ⟨d, hd, hn, e2⟩
        · rw [e2]
          by_cases e1 : y z < far
          · rw [if_pos e1]; exact (Iz.2 e1).2
          · rw [if_neg e1]; omega
        · rw [e2]
          have hi := nb_in h z0 z1 hn
          have bn := hb _ hi.1 hi.2.1
          have sy := nb_sym (d := (d : Int)) h z0 z1 (by omega) (by omega) hn
          have cz := (hk z z0 z1).1 e
          have cl := hy (nbC W H z d) (3 - d) hi.1 hi.2.1 (by omega) (by omega) (by rw [sy]; omega) (by rw [sy]; exact cz)
          have f := fw (nbC W H z d) (3 - d) hi.1 hi.2.1 (by omega) (by omega) (by rw [sy]; omega) (by rw [sy]; exact cz)
          rw [sy] at cl f
          have cz2 := hc z z0 z1
          generalize nbC W H z d = b at hi bn cl f ⊢
          by_cases e1 : y z < far
          · rw [if_pos e1]
            have := (Iz.2 e1).2
            rcases bn with bn | bn
            · rw [show rf (y b) = y b from if_pos (by omega)] at f; omega
            · omega
          · rw [if_neg e1]; omega
    · have hi := nb_in h k0 k1 hn
      have bk := hb k k0 k1
      have bn := hb _ hi.1 hi.2.1
      have cl := hy k d k0 k1 d0 d1 hn hcn
      have f := fw k d k0 k1 d0 d1 hn hcn
      have cn := hc _ hi.1 hi.2.1
      have Ib := hI _ hi.1 hi.2.1
      show (if y (nbC W H k d) < far then D (nbC W H k d) else far) ≤ (if y k < far then D k else far) + c (nbC W H k d)
      generalize nbC W H k d = b at bn cl f cn hcn Ib ⊢
      by_cases e1 : y k < far
      · rw [if_pos e1, if_pos (by omega)]; omega
      · rw [if_neg e1]
        by_cases e2 : y b < far
        · rw [if_pos e2]; have := (Ib.2 e2).2; omega
        · rw [if_neg e2]; omega
  intro z z0 z1
  have u := up z z0 z1
  have Iz := hI z z0 z1
  have bz := hb z z0 z1
  have bz' := b'.1 z z0 z1
  have lz := b'.2.1 z z0 z1
  by_cases e1 : y z < far
  · rw [if_pos e1] at u
    have := Iz.2 e1
    rw [show rf (y' z) = y' z from if_pos (by omega)]
    omega
  · rw [if_neg e1] at u
    rw [Iz.1 (by omega), show rf (y' z) = hiR by unfold rf; rw [if_neg (by omega)]]
