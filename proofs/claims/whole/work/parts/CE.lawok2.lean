/-! ===== a law that is read can be run: all of it ===== -/
theorem PR_atm {f : Int → Int} {n D : Int} {sub : Ps → Ps} {B : Nat} (hf : tpOk f n) (hD : D ≤ 6) (hL : rL n (D + 1) sub) (hP : D < 6 → PR n (D + 1) sub B False) (hB : 1 ≤ B) : PR n D (pAtm f n sub) B False := by
  intro s hs hk hd h7 hb fc hfc L hgL
  have hk0 := hk.1
  unfold pAtm at hb ⊢
  by_cases e : pB s = 0
  · rw [if_pos e] at hb ⊢
    have one : ∀ (c : Int) (t : Ps), pB (lay c t) = 0 → pK t = pK s → (0 ≤ cdU c ∧ cdU c < 1006) → Rn fc (cdK (pK (lay c t))) (pK s 5).toNat (pK (lay c t) 5 - pK s 5).toNat L B False := by
      intro c t hb hK hc
      have lc := lay_c (c := c) (lay_b hb) (by rw [hK]; exact hk0)
      rw [hK] at lc
      rw [lc.1, show (pK s 5 + 1 - pK s 5).toNat = 1 by omega]
      have e2 : (((pK s 5).toNat : Nat) : Int) = pK s 5 := by omega
      exact Rn_push hfc hgL (by rw [e2, lc.2.1]; exact hc.1) (by rw [e2, lc.2.1]; exact hc.2) hB
    by_cases w : lwd f s = -1
    · rw [if_pos w] at hb ⊢
      by_cases z : isSg 40 s = true
      · rw [if_pos z] at hb ⊢
        have g := Lo_gi hf hs (by omega)
        have gk := Lo_k g.1 hk
        have g2 := hL _ g.1.1 gk (by rw [g.1.2.1]; omega) (fun z => g.2 (by omega))
        have gm := Lo_mu (c := 41) hf g2.1
        have b2 : pB (sub (gin f n s)) = 0 := (gm.2.2.2.2 hb).1
        have b1 : pB (gin f n s) = 0 := (g2.2.2.2.2 b2).1
        have h6 : D < 6 := by
          rcases Int.lt_or_eq_of_le hD with h | h
          · exact h
          · exact absurd b1 (g.2 (by omega))
        have hgn : pK (gin f n s) = pK s := by
          unfold gin rdO
          rw [if_neg (show ¬ pD s = 6 by omega), if_pos (show pB (stD (pD s + 1) s) = 0 from e)]
          rfl
        have p := hP h6 _ g.1.1 gk (by rw [g.1.2.1]; omega) (fun z => by omega) b2 fc hfc L hgL
        rw [hgn] at p
        have hmK : pK (dwn (muS f n 41 (sub (gin f n s)))) = pK (sub (gin f n s)) := (Mv_mu hf g2.1).2.1
        rw [hmK]
        exact p
      · rw [if_neg z] at hb ⊢
        have m := Mv_nm (lo := 0) (hi := 999) hf hs
        have v := (nmb_v (f := f) (lo := 0) (hi := 999) hs).2.1 (by omega)
        exact one _ _ hb m.2.1 (by unfold cdU; rw [if_pos (by omega)]; omega)
    · rw [if_neg w] at hb ⊢
      have hwi : 0 ≤ lwd f s ∧ lwd f s ≤ 5 := by
        have : -1 ≤ lwd f s ∧ lwd f s ≤ 5 := by unfold lwd; repeat' split <;> omega
        omega
      exact one _ _ hb rfl (by unfold cdU; rw [if_neg (by omega), if_pos (by omega)]; omega)
  · rw [if_neg e] at hb
    exact absurd hb e
theorem PR_sm {f : Int → Int} {n D : Int} {sub : Ps → Ps} {B : Nat} (hf : tpOk f n) (hD : D ≤ 6) (hL : rL n (D + 1) sub) (hP : D < 6 → PR n (D + 1) sub B False) (hB : 1 ≤ B) : PR n D (pSm f n sub) (B + 2) False := by
  have h1 : opC n D (pAtm f n sub) := Lo_atm hf hD fun s a b c e => hL s a b c (fun z => e (by omega))
  have h2 : opC n D (pTrm f n sub) := Lo_trm hf h1
  have p1 := PR_atm hf hD hL hP hB
  have p2 : PR n D (pTrm f n sub) (B + 1) False := PR_lp (c := fun _ => 12) hf hD ((rL_op hD).mpr h1) p1 (fun s h => by have := isSg_h h; exact ⟨this.1, by omega⟩) (fun s => by decide) (by omega) (by omega)
  exact PR_lp (c := fun s => if pT s = 43 then 10 else 11) hf hD ((rL_op hD).mpr h2) p2 (fun s h => by
    rw [Bool.or_eq_true] at h
    rcases h with h | h
    · have := isSg_h h; exact ⟨this.1, by omega⟩
    · have := isSg_h h; exact ⟨this.1, by omega⟩) (fun s => by by_cases e : pT s = 43 <;> simp only [e, if_true, if_false] <;> decide) (by omega) (by omega)
theorem PR_smD {f : Int → Int} {n : Int} (hf : tpOk f n) : ∀ m : Nat, m ≤ 6 → PR n (6 - m) (smD f n m) (2 * m + 3) False
  | 0, _ => PR_sm (B := 1) hf (by omega) rL_id (fun z => by omega) (by omega)
  | m + 1, h => by
    have e1 : (6 : Int) - ((m + 1 : Nat) : Int) + 1 = 6 - (m : Int) := by omega
    have := PR_sm (D := (6 : Int) - ((m + 1 : Nat) : Int)) (sub := smD f n m) (B := 2 * m + 3) hf (by omega) (by rw [e1]; exact smD_L hf m (by omega)) (fun _ => by rw [e1]; exact PR_smD hf m (by omega)) (by omega)
    rwa [show 2 * m + 3 + 2 = 2 * (m + 1) + 3 by omega] at this
theorem PR_unt {f : Int → Int} {n D : Int} {un tr sm : Ps → Ps} {B : Nat} (hf : tpOk f n) (hD : D ≤ 6) (hLU : rL n (D + 1) un) (hLT : rL n (D + 1) tr) (hLS : rL n D sm) (hU : D < 6 → PR n (D + 1) un B True) (hT : D < 6 → PR n (D + 1) tr B True) (hS : PR n D sm B False) (hB : 1 ≤ B) : PR n D (pUnt f n un tr sm) (B + 1) True := by
  intro s hs hk hd h7 hb fc hfc L hgL
  have hk0 := hk.1
  unfold pUnt at hb ⊢
  by_cases e : pB s = 0
  · rw [if_pos e] at hb ⊢
    by_cases w : isWd f 12 s = true
    · rw [if_pos w] at hb ⊢
      have g := Lo_gi hf hs (by omega)
      have gk := Lo_k g.1 hk
      have g2 := hLU _ g.1.1 gk (by rw [g.1.2.1]; omega) (fun z => g.2 (by omega))
      have hb' : pB (lay 18 (un (gin f n s))) = 0 := hb
      have b2 := lay_b hb'
      have b1 : pB (gin f n s) = 0 := (g2.2.2.2.2 b2).1
      have h6 : D < 6 := by
        rcases Int.lt_or_eq_of_le hD with h | h
        · exact h
        · exact absurd b1 (g.2 (by omega))
      have hgn : pK (gin f n s) = pK s := by
        unfold gin rdO
        rw [if_neg (show ¬ pD s = 6 by omega), if_pos (show pB (stD (pD s + 1) s) = 0 from e)]
        rfl
      have p := hU h6 _ g.1.1 gk (by rw [g.1.2.1]; omega) (fun z => by omega) b2 fc hfc L hgL
      have g25 := g2.2.2.1
      rw [hgn] at p g25
      show Rn fc (cdK (pK (lay 18 (un (gin f n s))))) (pK s 5).toNat (pK (lay 18 (un (gin f n s))) 5 - pK s 5).toNat L (B + 1) True
      have lc := lay_c (c := 18) b2 (by omega)
      generalize un (gin f n s) = U at *
      rw [lc.1, show (pK U 5 + 1 - pK s 5).toNat = (pK U 5 - pK s 5).toNat + 1 by omega]
      refine Rn_not (Rn_m (by omega) (fun z => z) (Rn_cg (fun j j0 j1 => (lc.2.2 j (by omega) (by omega)).symm) p)) hgL ?_ (by omega)
      rw [show (((pK s 5).toNat + (pK U 5 - pK s 5).toNat : Nat) : Int) = pK U 5 by omega, lc.2.1]
      rfl
    · rw [if_neg w] at hb ⊢
      by_cases z : isSg 91 s = true
      · rw [if_pos z] at hb ⊢
        have g := Lo_gi hf hs (by omega)
        have gk := Lo_k g.1 hk
        have g2 := hLT _ g.1.1 gk (by rw [g.1.2.1]; omega) (fun z => g.2 (by omega))
        have gm := Lo_mu (c := 93) hf g2.1
        have b2 : pB (tr (gin f n s)) = 0 := (gm.2.2.2.2 hb).1
        have b1 : pB (gin f n s) = 0 := (g2.2.2.2.2 b2).1
        have h6 : D < 6 := by
          rcases Int.lt_or_eq_of_le hD with h | h
          · exact h
          · exact absurd b1 (g.2 (by omega))
        have hgn : pK (gin f n s) = pK s := by
          unfold gin rdO
          rw [if_neg (show ¬ pD s = 6 by omega), if_pos (show pB (stD (pD s + 1) s) = 0 from e)]
          rfl
        have p := hT h6 _ g.1.1 gk (by rw [g.1.2.1]; omega) (fun z => by omega) b2 fc hfc L hgL
        rw [hgn] at p
        have hmK : pK (dwn (muS f n 93 (tr (gin f n s)))) = pK (tr (gin f n s)) := (Mv_mu hf g2.1).2.1
        rw [hmK]
        exact Rn_m (by omega) (fun z => z) p
      · rw [if_neg z] at hb ⊢
        have b1 := hLS s hs hk hd h7
        have k1 := Lo_k b1 hk
        have hd1 : pD (sm s) = D := by rw [b1.2.1]; omega
        have bb := lay_b hb
        have b2 := Lo_cm hf b1.1
        have b3 := hLS _ b2.1 (Lo_k b2 k1) (by rw [b2.2.1]; omega) (fun z => by omega)
        have ec := (b3.2.2.2.2 bb).1
        have q := cmS_B b1.1 ec
        have p := hS s hs hk hd h7 q.2.2 fc hfc L hgL
        rw [q.1] at hb ⊢
        have e2 : (((pK s 5).toNat : Nat) : Int) = pK s 5 := by omega
        have hcm : 1007 ≤ cdU (cmC (pT (sm s))) ∧ cdU (cmC (pT (sm s))) ≤ 1014 ∧ 1010 ≤ cdU (cmC (pT (sm s))) ∧ ¬ 1013 ≤ cdU (cmC (pT (sm s))) := by
          unfold cmC
          repeat' split
          all_goals decide
        have := Rn_join (a := (pK s 5).toNat) (c := cmC (pT (sm s))) (B1 := B) (B2 := B) (B := B + 1) (t1 := False) (t2 := False) (ty := True) hf hD hLS hS b1.1 k1 hd1 (by rw [e2]; exact b1.2.2.1) hfc hgL (by rw [e2]; exact p) hb hcm.1 hcm.2.1 (fun z => absurd z hcm.2.2.2) (fun _ => hcm.2.2.1) (by omega) (by omega) (by omega)
        rw [e2] at this
        exact this
  · rw [if_neg e] at hb
    exact absurd hb e
theorem PR_m {n D : Int} {F : Ps → Ps} {B B' : Nat} {ty : Prop} (h : PR n D F B ty) (hB : B ≤ B') : PR n D F B' ty := fun s a b c e g fc hfc L hL => Rn_m hB (fun z => z) (h s a b c e g fc hfc L hL)
theorem PR_tr {f : Int → Int} {n D : Int} {u : Ps → Ps} {B : Nat} (hf : tpOk f n) (hD : D ≤ 6) (hL : rL n D u) (hP : PR n D u B True) (hB : 1 ≤ B) : PR n D (pTru f n u) (B + 2) True := by
  have p1 : PR n D (pBth f n u) (B + 1) True := PR_lp (c := fun _ => 16) hf hD hL hP (fun s h => by have := isWd_h h; exact ⟨this.1, by omega⟩) (fun s => by decide) (by omega) (by omega)
  exact PR_lp (c := fun _ => 17) hf hD (rL_tr hf hD hL).1 p1 (fun s h => by have := isWd_h h; exact ⟨this.1, by omega⟩) (fun s => by decide) (by omega) (by omega)
theorem PR_unD {f : Int → Int} {n : Int} (hf : tpOk f n) : ∀ m : Nat, m ≤ 6 → PR n (6 - m) (unD f n m) (3 * m + 4) True
  | 0, _ => PR_unt (B := 3) hf (by omega) rL_id rL_id (smD_L hf 0 (by omega)) (fun z => by omega) (fun z => by omega) (PR_smD hf 0 (by omega)) (by omega)
  | m + 1, h => by
    have e1 : (6 : Int) - ((m + 1 : Nat) : Int) + 1 = 6 - (m : Int) := by omega
    have hU := unD_L hf m (by omega)
    have pU := PR_unD hf m (by omega)
    have hT := rL_tr hf (by omega) hU
    have pT := PR_tr hf (by omega) hU pU (by omega)
    have := PR_unt (D := (6 : Int) - ((m + 1 : Nat) : Int)) (B := 3 * m + 6) hf (by omega) (by rw [e1]; exact hU) (by rw [e1]; exact hT.2) (smD_L hf (m + 1) h) (fun _ => by rw [e1]; exact PR_m pU (by omega)) (fun _ => by rw [e1]; exact PR_m pT (by omega)) (PR_m (PR_smD hf (m + 1) h) (by omega)) (by omega)
    exact PR_m this (by omega)
/-- the law that is told can be run -/
def lwV (K : Int → Int) : Prop := ∀ fc, fcOk fc → K 5 ≠ 0 → Rn fc (cdK K) 0 (K 5).toNat [] 24 True
theorem sgR_0 {fc cd : Int → Int} : ∀ k : Nat, sgR fc cd 0 k [] = lwR fc cd k
  | 0 => rfl
  | k + 1 => by
    show lwS fc (cd ((0 + k : Nat) : Int)) (sgR fc cd 0 k []) = lwS fc (cd k) (lwR fc cd k)
    rw [sgR_0 k, Nat.zero_add]
theorem lwV_G {K : Int → Int} (h0 : 0 ≤ K 5) (h : lwV K) : lawG (cdK K) (K 5).toNat := by
  intro fc hfc
  by_cases e : K 5 = 0
  · rw [e]
    exact ⟨fun i hi => by omega, by simp [lwR], by simp [lwR]⟩
  · obtain ⟨⟨v, h1, h2, h4⟩, h3⟩ := h fc hfc e
    rw [sgR_0] at h1
    refine ⟨fun i hi => ?_, by rw [h1]; simp, fun w hw => ?_⟩
    · have := h3 i hi
      rw [sgR_0, Nat.zero_add] at this
      obtain ⟨c1, c2, c3, c4, c5⟩ := this
      simp only [List.length_nil] at c4
      refine ⟨c1.1, c1.2, fun _ => by omega, fun z => ?_, fun z => ?_, by omega, c5⟩
      · obtain ⟨v, r, e, _⟩ := c2 z
        rw [e]; simp
      · obtain ⟨y, x, r, e, _⟩ := c3 z
        rw [e]; simp
    · rw [h1] at hw
      rcases List.mem_cons.mp hw with e | e
      · rw [e]; exact h2
      · cases e
theorem lwV_cg {K K' : Int → Int} (hk : ∀ j, (j = 5 ∨ 988 ≤ j) → K' j = K j) (h : lwV K) : lwV K' := by
  intro fc hfc he
  rw [hk 5 (Or.inl rfl)] at he ⊢
  exact Rn_cg (fun j _ _ => (cdK_e (hk _ (Or.inr (by omega)))).symm) (h fc hfc he)
def jF (s s' : Ps) : Prop := ∀ j, (j = 5 ∨ 988 ≤ j) → pK s' j = pK s j
theorem jF_mv {n : Int} {s s' : Ps} (h : Mv n s s') : jF s s' := fun j _ => by rw [h.2.1]
theorem jF_t {s t u : Ps} (h1 : jF s t) (h2 : jF t u) : jF s u := fun j hj => (h2 j hj).trans (h1 j hj)
theorem hdg_F {f : Int → Int} {n : Int} {s : Ps} (hf : tpOk f n) (h : iL n s) : jF s (hdg f n s) := by
  have hc := cel_in hf h.1 h.2.1.1
  have a1 := h.2.1.1.1
  have a2 := h.2.1.1.2.1
  have hw := wh_mul (W := pK s 1) (H := pK s 2) ⟨a1.1, a1.2, a2.1, a2.2⟩
  unfold hdg
  dsimp only
  have m2 : Mv n s (if kdW f (celP f n s).2 = 0 then blm 2 (celP f n s).2 else rdOn f n (celP f n s).2) := by
    split
    · exact Mv_t hc.1 (Mv_bl hc.1.1 (by omega) (by omega))
    · exact Mv_t hc.1 (Mv_rd hf hc.1.1)
  generalize (if kdW f (celP f n s).2 = 0 then blm 2 (celP f n s).2 else rdOn f n (celP f n s).2) = t at *
  have m3 := Mv_t m2 (Mv_nm (lo := 1) (hi := 60) hf m2.1)
  generalize nmb f n 1 60 t = X at *
  split
  · intro j hj
    show fu (fu (pK X.2) _ _) _ _ j = _
    rw [fu_n (by omega), fu_n (by omega), m3.2.1]
  · exact jF_mv m3
theorem wal_F {f : Int → Int} {n : Int} {s : Ps} (hf : tpOk f n) (h : iL n s) : jF s (wal f n s) := by
  unfold wal
  dsimp only
  have m1 : Mv n s (rdO f n (if 0 < pK s 3 then blm 2 s else s)) := by
    split
    · exact Mv_t (Mv_bl h.1 (by omega) (by omega)) (Mv_rO hf (Mv_bl h.1 (by omega) (by omega)).1)
    · exact Mv_rO hf h.1
  generalize rdO f n (if 0 < pK s 3 then blm 2 s else s) = s1 at *
  split
  · have hc := cel_in hf m1.1 (iL_mv h m1).2.1.1
    rw [m1.2.1] at hc
    have m2 := Mv_t m1 hc.1
    have a1 := h.2.1.1.1
    have a2 := h.2.1.1.2.1
    have hw := wh_mul (W := pK s 1) (H := pK s 2) ⟨a1.1, a1.2, a2.1, a2.2⟩
    generalize celP f n s1 = X at *
    split
    · intro j hj
      show fu (fu (pK X.2) _ _) _ _ j = _
      rw [fu_n (by omega), fu_n (by omega), m2.2.1]
    · exact jF_mv m2
  · exact jF_mv m1
theorem ern_F {f : Int → Int} {n : Int} {s : Ps} (hf : tpOk f n) (h : iL n s) : jF s (ern f n s) := by
  unfold ern
  dsimp only
  have a4 := h.2.1.1.2.2.2
  have a3 := h.2.1.1.2.2.1
  have m1 : Mv n s (if pB s = 0 ∧ pT s = 2 ∧ pV s < pK s 3 ∧ pK s (93 + pV s) = 4 then blm 4 s else s) := by
    split
    · exact Mv_bl h.1 (by omega) (by omega)
    · exact Mv_r h.1
  generalize (if pB s = 0 ∧ pT s = 2 ∧ pV s < pK s 3 ∧ pK s (93 + pV s) = 4 then blm 4 s else s) = s1 at *
  have mw := Mv_nm (lo := 0) (hi := pK s 3 - 1) hf m1.1
  have vw := nmb_v (f := f) (lo := 0) (hi := pK s 3 - 1) m1.1
  generalize nmb f n 0 (pK s 3 - 1) s1 = w at *
  have m2 := Mv_t m1 mw
  have hc := cel_in hf m2.1 (iL_mv h m2).2.1.1
  generalize celP f n w.2 = c at *
  have mb := Mv_nm (lo := 0) (hi := 999) hf hc.1.1
  generalize nmb f n 0 999 c.2 = b at *
  have m3 := Mv_t m2 (Mv_t hc.1 mb)
  split
  · rename_i e
    have v := vw.1 (hc.1.2.2.2 (mb.2.2.2 e).1).1
    have q := a4 w.1 (by omega) (by omega)
    intro j hj
    show erS (pK b.2) w.1 c.1 b.1 j = _
    unfold erS
    rw [m3.2.1, fu_n (by omega), fu_n (by omega), fu_n (by omega)]
  · exact jF_mv m3
theorem wkr_F {f : Int → Int} {n : Int} {s : Ps} (hf : tpOk f n) (h : iL n s) : jF s (wkr f n s) := by
  have a3 := h.2.1.1.2.2.1
  unfold wkr
  dsimp only
  have m1 : Mv n s (rdO f n (if pK s 3 = 5 then blm 4 s else s)) := by
    split
    · exact Mv_t (Mv_bl h.1 (by omega) (by omega)) (Mv_rO hf (Mv_bl h.1 (by omega) (by omega)).1)
    · exact Mv_rO hf h.1
  generalize rdO f n (if pK s 3 = 5 then blm 4 s else s) = s1 at *
  by_cases e : pB s1 = 0
  · rw [if_pos e]
    have mx := Mv_nm (lo := 0) (hi := pK s 1 - 1) hf m1.1
    generalize nmb f n 0 (pK s 1 - 1) s1 = x at *
    have m2 : Mv n s (if pB x.2 = 0 ∧ pT x.2 = 2 ∧ pV x.2 < pK s 2 ∧ pK s (7 + pK s 1 * pV x.2 + x.1) = 4 then blm 3 x.2 else x.2) := by
      split
      · exact Mv_t m1 (Mv_t mx (Mv_bl mx.1 (by omega) (by omega)))
      · exact Mv_t m1 mx
    generalize (if pB x.2 = 0 ∧ pT x.2 = 2 ∧ pV x.2 < pK s 2 ∧ pK s (7 + pK s 1 * pV x.2 + x.1) = 4 then blm 3 x.2 else x.2) = s2 at *
    have my := Mv_nm (lo := 0) (hi := pK s 2 - 1) hf m2.1
    generalize nmb f n 0 (pK s 2 - 1) s2 = y at *
    have k3 : pO n (if isWd f 8 y.2 = true then stK2 (fu (pK s) 92 (oo (pK s 92) (sl 1 (pK s 3)))) (rdOn f n y.2) else y.2) ∧ jF s (if isWd f 8 y.2 = true then stK2 (fu (pK s) 92 (oo (pK s 92) (sl 1 (pK s 3)))) (rdOn f n y.2) else y.2) := by
      split
      · exact ⟨(rdOn_O hf my.1).1, fun j hj => fu_n (by omega)⟩
      · exact ⟨my.1, jF_mv (Mv_t m2 my)⟩
    generalize (if isWd f 8 y.2 = true then stK2 (fu (pK s) 92 (oo (pK s 92) (sl 1 (pK s 3)))) (rdOn f n y.2) else y.2) = s3 at *
    have ma : jF s (if isWd f 9 s3 = true then nmb f n 0 999 (rdOn f n s3) else (0, s3)).2 := by
      split
      · have r := Mv_rd hf k3.1
        exact jF_t k3.2 (jF_mv (Mv_t r (Mv_nm hf r.1)))
      · exact k3.2
    generalize (if isWd f 9 s3 = true then nmb f n 0 999 (rdOn f n s3) else (0, s3)) = a at *
    split
    · intro j hj
      show wkS (pK a.2) _ _ _ j = _
      unfold wkS
      rw [fu_n (by omega), fu_n (by omega), fu_n (by omega)]
      exact ma j hj
    · exact ma
  · rw [if_neg e]
    exact jF_mv m1
theorem lin0_W {f : Int → Int} {n : Int} {s : Ps} (hf : tpOk f n) (h : iL n s) (hw : pB s = 0 → lwV (pK s)) (hb : pB (lin0 f n s) = 0) (hj : pB (lin0 f n s) = 0 → pB s = 0) : lwV (pK (lin0 f n s)) := by
  have r := Mv_rd hf h.1
  have ir := iL_mv h r
  have h0 := hw (hj hb)
  unfold lin0 at hb ⊢
  by_cases w2 : isWd f 2 s = true
  · rw [if_pos w2] at hb ⊢
    exact lwV_cg (jF_t (jF_mv r) (hdg_F hf ir)) h0
  · rw [if_neg w2] at hb ⊢
    by_cases w6 : isWd f 6 s = true
    · rw [if_pos w6] at hb ⊢
      exact lwV_cg (wal_F hf h) h0
    · rw [if_neg w6] at hb ⊢
      by_cases w7 : isWd f 7 s = true
      · rw [if_pos w7] at hb ⊢
        exact lwV_cg (wkr_F hf h) h0
      · rw [if_neg w7] at hb ⊢
        by_cases w10 : isWd f 10 s = true
        · rw [if_pos w10] at hb ⊢
          exact lwV_cg (jF_t (jF_mv r) (ern_F hf ir)) h0
        · rw [if_neg w10] at hb ⊢
          by_cases w21 : isWd f 21 s = true
          · rw [if_pos w21] at hb ⊢
            dsimp only
            have m := Mv_t r (Mv_nm (lo := 2) (hi := 9) hf r.1)
            refine lwV_cg (fun j hj => ?_) h0
            show fu (pK _) 4 _ j = _
            rw [fu_n (by omega), m.2.1]
          · rw [if_neg w21] at hb ⊢
            by_cases w11 : isWd f 11 s = true
            · rw [if_pos w11] at hb ⊢
              have g := gr_J hf h
              have p := PR_tr hf (by omega) (unD_L hf 6 (by omega)) (PR_unD hf 6 (by omega)) (by omega)
              intro fc hfc _
              have q := p _ g.1.1 g.1.2.2.1 g.1.2.2.2 (fun z => by omega) hb fc hfc [] (fun v hv => by cases hv)
              have k5 : pK (stK2 (fu (pK s) 5 0) (rdOn f n s)) 5 = 0 := by show fu (pK s) 5 0 5 = 0; exact fu_s
              rw [k5] at q
              rw [Int.sub_zero] at q
              exact q
            · rw [if_neg w11] at hb ⊢
              exact lwV_cg (jF_mv (Mv_bl h.1 (by omega) (by omega))) h0
theorem stp_F {f : Int → Int} {n : Int} {s : Ps} (hf : tpOk f n) (h : pO n s) : jF s (stpL f n s) := by
  have m := Mv_mu (c := 59) hf h
  unfold stpL
  dsimp only
  generalize muS f n 59 s = t at *
  split
  · intro j hj
    show fu (pK t) 0 _ j = _
    rw [fu_n (by omega), m.2.1]
  · exact jF_mv m
theorem stp_b {f : Int → Int} {n : Int} {s : Ps} (hf : tpOk f n) (h : pO n s) (hb : pB (stpL f n s) = 0) : pB s = 0 := by
  have m := Mv_mu (c := 59) hf h
  unfold stpL at hb
  dsimp only at hb
  generalize muS f n 59 s = t at *
  by_cases e : pB t = 0
  · exact (m.2.2.2 e).1
  · rw [if_neg e] at hb; exact absurd hb e
theorem prk_W {f : Int → Int} {n : Int} {σ : St} (hF : σ 1205 382 = f) (hn : σ 1207 382 0 = n) (hf : tpOk f n) : ∀ (m : Nat) (s : Ps), mL n s → (pB s = 0 → lwV (pK s)) → pB (lpG (fun s => decide (pB s = 0 ∧ pT s ≠ 0)) (lin f n) m s) = 0 → lwV (pK (lpG (fun s => decide (pB s = 0 ∧ pT s ≠ 0)) (lin f n) m s))
  | 0, s, _, hw, hb => hw hb
  | m + 1, s, h, hw, hb => by
    simp only [lpG] at hb ⊢
    split
    · rename_i hc
      rw [if_pos hc] at hb
      refine prk_W hF hn hf m _ (lin_M hF hn hf h).1 (fun e => ?_) hb
      have j := lin0_J hF hn hf h.1
      have e1 : pB (stpL f n (lin0 f n s)) = 0 := e
      have e2 := stp_b hf j.1.1 e1
      exact lwV_cg (stp_F hf j.1.1) (lin0_W hf h.1 hw e2 (fun z => (j.2.1 z).1))
    · rename_i hc
      rw [if_neg hc] at hb
      exact hw hb
/-- a park without a fault is as it can be -/
theorem prk_V {f : Int → Int} {n : Int} {σ : St} {s : Ps} (hF : σ 1205 382 = f) (hn : σ 1207 382 0 = n) (hf : tpOk f n) (h : fst0 n (rdOn f n s)) (hb : pB (prk f n s) = 0) : kV (pK (prk f n s)) 999 ∧ pK (prk f n s) 6 = 0 ∧ lwV (pK (prk f n s)) ∧ wh2 (pK (prk f n s) 1) (pK (prk f n s) 2) := by
  have m1 := prk1_M hf h
  have j0 := prk0_J hf h
  have w1 : lwV (pK (prk1 f n (rdOn f n s))) := by
    have e : prk1 f n (rdOn f n s) = stpL f n (prk0 f n (rdOn f n s)) := rfl
    rw [e]
    refine lwV_cg (stp_F hf j0.1.1) (fun fc _ z => ?_)
    exact absurd (j0.2.2 5 (by omega) (by omega) (by omega) (by omega)) z
  have mP : mL n (prk f n s) := prk_lp hF hn hf 901 _ m1
  have wP : lwV (pK (prk f n s)) := prk_W hF hn hf 901 _ m1 (fun _ => w1) hb
  obtain ⟨⟨o, t, k, d⟩, k0⟩ := mP
  have k5 := k.2 hb
  have k00 := k0 hb
  have hn9 := hf.2
  have hg := o.2.2.1
  obtain ⟨⟨a1, a2, a3, a4⟩, b1, b2, b3, b4, b5, b6⟩ := t
  have wh : wh2 (pK (prk f n s) 1) (pK (prk f n s) 2) := ⟨a1.1, a1.2, a2.1, a2.2⟩
  refine ⟨⟨⟨Or.inr wh, a3, b1, ⟨k.1, by omega⟩, by rw [b2]; omega, b3, fun w w0 w1 => ⟨(a4 w w0 w1).1, (a4 w w0 w1).2, fun e e0 e1 => b4 w e w0 w1 e0 e1⟩, lwV_G k.1 wP, b6, by omega⟩, scV_W.mpr b5, fun i i0 i1 => by rw [b2] at i1; omega⟩, b2, wP, wh⟩
