/-! ===== the codes that are laid ===== -/
def vcd (c : Int) : Prop := (10 ≤ c ∧ c ≤ 18) ∨ (100 ≤ c ∧ c ≤ 105) ∨ (1000 ≤ c ∧ c ≤ 1999)
def rwK (K : Int → Int) : Prop := ∀ i, 0 ≤ i → i < K 5 → vcd (K (988 + i))
def RW (n D : Int) (F : Ps → Ps) : Prop := ∀ s, pO n s → kO s → pD s = D → (D = 7 → pB s ≠ 0) → rwK (pK s) → rwK (pK (F s))
theorem rw_lay {c : Int} {s : Ps} (h0 : 0 ≤ pK s 5) (hc : vcd c) (h : rwK (pK s)) : rwK (pK (lay c s)) := by
  unfold lay
  split
  · intro i i0 i1
    have e5 : fu (fu (pK s) (988 + pK s 5) c) 5 (pK s 5 + 1) 5 = pK s 5 + 1 := fu_s
    have i1' : i < pK s 5 + 1 := by rw [← e5]; exact i1
    show vcd (fu (fu (pK s) (988 + pK s 5) c) 5 (pK s 5 + 1) (988 + i))
    rw [fu_n (by omega)]
    by_cases e : i = pK s 5
    · rw [e, fu_s]; exact hc
    · rw [fu_n (by omega)]; exact h i i0 (by omega)
  · exact h
theorem RW_lp {f : Int → Int} {n D : Int} {F : Ps → Ps} {cnd : Ps → Bool} {c : Ps → Int} (hf : tpOk f n) (hD : D ≤ 6) (hL : rL n D F) (hF : RW n D F) (hcn : ∀ s, cnd s = true → pB s = 0 ∧ pT s ≠ 0) (hcc : ∀ s, vcd (c s)) : ∀ (m : Nat) (s : Ps), pO n s → kO s → pD s = D → rwK (pK s) → rwK (pK (lpG cnd (fun s => lay (c s) (F (rdOn f n s))) m s))
  | 0, s, _, _, _, h => h
  | m + 1, s, hs, hk, hd, h => by
    simp only [lpG]
    split
    · rename_i hc
      have hh := hcn s hc
      have r := rdOn_O hf hs
      have rk := Lo_k (Lo_rd hf hs) hk
      have l := Lo_body (c := c s) hf (fun s a b e => hL s a b e (fun z => by omega)) hs hk hd hh.1 hh.2
      have b := hL _ r.1 rk hd (fun z => by omega)
      exact RW_lp hf hD hL hF hcn hcc m _ l.1 (Lo_k l hk) (by rw [l.2.1]; omega) (rw_lay (Lo_k b rk).1 (hcc s) (hF _ r.1 rk hd (fun z => by omega) h))
    · exact h
theorem RW_lp2 {f : Int → Int} {n D : Int} {F : Ps → Ps} {cnd : Ps → Bool} {c : Ps → Int} {m : Nat} (hf : tpOk f n) (hD : D ≤ 6) (hL : rL n D F) (hF : RW n D F) (hcn : ∀ s, cnd s = true → pB s = 0 ∧ pT s ≠ 0) (hcc : ∀ s, vcd (c s)) : RW n D (fun s => lpG cnd (fun s => lay (c s) (F (rdOn f n s))) m (F s)) := by
  intro s hs hk hd h7 h
  have l := hL s hs hk hd h7
  exact RW_lp hf hD hL hF hcn hcc m _ l.1 (Lo_k l hk) (by rw [l.2.1]; omega) (hF s hs hk hd h7 h)
theorem gin_K {f : Int → Int} {n : Int} {s : Ps} (hf : tpOk f n) (hs : pO n s) : pK (gin f n s) = pK s := by
  have key : ∀ t : Ps, pK (rdO f n t) = pK t := fun t => by unfold rdO; split <;> rfl
  unfold gin
  rw [key]
  show pK (if pD s = 6 then blm 4 s else s) = pK s
  split
  · exact (Mv_bl hs (by omega) (by omega)).2.1
  · rfl
theorem RW_atm {f : Int → Int} {n D : Int} {sub : Ps → Ps} (hf : tpOk f n) (hD : D ≤ 6) (hL : rL n (D + 1) sub) (hP : RW n (D + 1) sub) : RW n D (pAtm f n sub) := by
  intro s hs hk hd h7 h
  unfold pAtm
  split
  · split
    · split
      · have g := Lo_gi hf hs (by omega)
        have gk := Lo_k g.1 hk
        have g2 := hL _ g.1.1 gk (by rw [g.1.2.1]; omega) (fun z => g.2 (by omega))
        have p := hP _ g.1.1 gk (by rw [g.1.2.1]; omega) (fun z => g.2 (by omega)) (by rw [gin_K hf hs]; exact h)
        show rwK (pK (muS f n 41 (sub (gin f n s))))
        rw [(Mv_mu hf g2.1).2.1]
        exact p
      · have m := Mv_nm (lo := 0) (hi := 999) hf hs
        have v := (nmb_v (f := f) (lo := 0) (hi := 999) hs).2.1 (by omega)
        exact rw_lay (by rw [m.2.1]; exact hk.1) (Or.inr (Or.inr ⟨by omega, by omega⟩)) (by rw [m.2.1]; exact h)
    · rename_i w
      have hwi : 0 ≤ lwd f s ∧ lwd f s ≤ 5 := by
        have : -1 ≤ lwd f s ∧ lwd f s ≤ 5 := by unfold lwd; repeat' split <;> omega
        omega
      exact rw_lay (s := rdOn f n s) hk.1 (Or.inr (Or.inl ⟨by omega, by omega⟩)) h
  · exact h
theorem RW_sm {f : Int → Int} {n D : Int} {sub : Ps → Ps} (hf : tpOk f n) (hD : D ≤ 6) (hL : rL n (D + 1) sub) (hP : RW n (D + 1) sub) : RW n D (pSm f n sub) := by
  have h1 : opC n D (pAtm f n sub) := Lo_atm hf hD fun s a b c e => hL s a b c (fun z => e (by omega))
  have h2 : opC n D (pTrm f n sub) := Lo_trm hf h1
  have p1 := RW_atm hf hD hL hP
  have p2 : RW n D (pTrm f n sub) := RW_lp2 (c := fun _ => 12) hf hD ((rL_op hD).mpr h1) p1 (fun s h => by have := isSg_h h; exact ⟨this.1, by omega⟩) (fun s => Or.inl ⟨by omega, by omega⟩)
  exact RW_lp2 (c := fun s => if pT s = 43 then 10 else 11) hf hD ((rL_op hD).mpr h2) p2 (fun s h => by
    rw [Bool.or_eq_true] at h
    rcases h with h | h
    · have := isSg_h h; exact ⟨this.1, by omega⟩
    · have := isSg_h h; exact ⟨this.1, by omega⟩) (fun s => Or.inl (by split <;> omega))
theorem RW_id {n D : Int} : RW n D (fun s => s) := fun s _ _ _ _ h => h
theorem RW_smD {f : Int → Int} {n : Int} (hf : tpOk f n) : ∀ m : Nat, m ≤ 6 → RW n (6 - m) (smD f n m)
  | 0, _ => RW_sm hf (by omega) rL_id RW_id
  | m + 1, h => by
    have e1 : (6 : Int) - ((m + 1 : Nat) : Int) + 1 = 6 - (m : Int) := by omega
    exact RW_sm hf (by omega) (by rw [e1]; exact smD_L hf m (by omega)) (by rw [e1]; exact RW_smD hf m (by omega))
theorem RW_unt {f : Int → Int} {n D : Int} {un tr sm : Ps → Ps} (hf : tpOk f n) (hD : D ≤ 6) (hLU : rL n (D + 1) un) (hLT : rL n (D + 1) tr) (hLS : rL n D sm) (hU : RW n (D + 1) un) (hT : RW n (D + 1) tr) (hS : RW n D sm) : RW n D (pUnt f n un tr sm) := by
  intro s hs hk hd h7 h
  unfold pUnt
  split
  · split
    · have g := Lo_gi hf hs (by omega)
      have gk := Lo_k g.1 hk
      have g2 := hLU _ g.1.1 gk (by rw [g.1.2.1]; omega) (fun z => g.2 (by omega))
      exact rw_lay (Lo_k g2 gk).1 (Or.inl ⟨by omega, by omega⟩) (hU _ g.1.1 gk (by rw [g.1.2.1]; omega) (fun z => g.2 (by omega)) (by rw [gin_K hf hs]; exact h))
    · split
      · have g := Lo_gi hf hs (by omega)
        have gk := Lo_k g.1 hk
        have g2 := hLT _ g.1.1 gk (by rw [g.1.2.1]; omega) (fun z => g.2 (by omega))
        show rwK (pK (muS f n 93 (tr (gin f n s))))
        rw [(Mv_mu hf g2.1).2.1]
        exact hT _ g.1.1 gk (by rw [g.1.2.1]; omega) (fun z => g.2 (by omega)) (by rw [gin_K hf hs]; exact h)
      · have b1 := hLS s hs hk hd h7
        have k1 := Lo_k b1 hk
        have hd1 : pD (sm s) = D := by rw [b1.2.1]; omega
        have b2 := Lo_cm hf b1.1
        have k2 := Lo_k b2 k1
        have hd2 : pD (cmS f n (sm s)) = D := by rw [b2.2.1]; omega
        have b3 := hLS _ b2.1 k2 hd2 (fun z => by omega)
        have hcK : pK (cmS f n (sm s)) = pK (sm s) := by
          unfold cmS
          split
          · exact (Mv_rO hf b1.1).2.1
          · exact (Mv_t (Mv_bl b1.1 (by omega) (by omega)) (Mv_rO hf (Mv_bl b1.1 (by omega) (by omega)).1)).2.1
        refine rw_lay (Lo_k b3 k2).1 (Or.inl ?_) (hS _ b2.1 k2 hd2 (fun z => by omega) (by rw [hcK]; exact hS s hs hk hd h7 h))
        unfold cmC
        repeat' split
        all_goals omega
  · exact h
theorem RW_tr {f : Int → Int} {n D : Int} {u : Ps → Ps} (hf : tpOk f n) (hD : D ≤ 6) (hL : rL n D u) (hP : RW n D u) : RW n D (pTru f n u) := by
  have p1 : RW n D (pBth f n u) := RW_lp2 (c := fun _ => 16) hf hD hL hP (fun s h => by have := isWd_h h; exact ⟨this.1, by omega⟩) (fun s => Or.inl ⟨by omega, by omega⟩)
  exact RW_lp2 (c := fun _ => 17) hf hD (rL_tr hf hD hL).1 p1 (fun s h => by have := isWd_h h; exact ⟨this.1, by omega⟩) (fun s => Or.inl ⟨by omega, by omega⟩)
theorem RW_unD {f : Int → Int} {n : Int} (hf : tpOk f n) : ∀ m : Nat, m ≤ 6 → RW n (6 - m) (unD f n m)
  | 0, _ => RW_unt hf (by omega) rL_id rL_id (smD_L hf 0 (by omega)) RW_id RW_id (RW_smD hf 0 (by omega))
  | m + 1, h => by
    have e1 : (6 : Int) - ((m + 1 : Nat) : Int) + 1 = 6 - (m : Int) := by omega
    have hU := unD_L hf m (by omega)
    have hT := rL_tr hf (by omega) hU
    exact RW_unt (D := (6 : Int) - ((m + 1 : Nat) : Int)) hf (by omega) (by rw [e1]; exact hU) (by rw [e1]; exact hT.2) (smD_L hf (m + 1) h) (by rw [e1]; exact RW_unD hf m (by omega)) (by rw [e1]; exact RW_tr hf (by omega) hU (RW_unD hf m (by omega))) (RW_smD hf (m + 1) h)
theorem rw_cg {K K' : Int → Int} (hk : ∀ j, (j = 5 ∨ 988 ≤ j) → K' j = K j) (h : rwK K) : rwK K' := fun i i0 i1 => by
  rw [hk 5 (Or.inl rfl)] at i1
  rw [hk (988 + i) (Or.inr (by omega))]
  exact h i i0 i1
theorem lin0_RW {f : Int → Int} {n : Int} {s : Ps} (hf : tpOk f n) (h : iL n s) (h0 : rwK (pK s)) : rwK (pK (lin0 f n s)) := by
  have r := Mv_rd hf h.1
  have ir := iL_mv h r
  unfold lin0
  split
  · exact rw_cg (jF_t (jF_mv r) (hdg_F hf ir)) h0
  · split
    · exact rw_cg (wal_F hf h) h0
    · split
      · exact rw_cg (wkr_F hf h) h0
      · split
        · exact rw_cg (jF_t (jF_mv r) (ern_F hf ir)) h0
        · split
          · dsimp only
            have m := Mv_t r (Mv_nm (lo := 2) (hi := 9) hf r.1)
            refine rw_cg (fun j hj => ?_) h0
            show fu (pK _) 4 _ j = _
            rw [fu_n (by omega), m.2.1]
          · split
            · have g := gr_J hf h
              refine RW_tr hf (by omega) (unD_L hf 6 (by omega)) (RW_unD hf 6 (by omega)) _ g.1.1 g.1.2.2.1 g.1.2.2.2 (fun z => by omega) (fun i i0 i1 => ?_)
              have k5 : pK (stK2 (fu (pK s) 5 0) (rdOn f n s)) 5 = 0 := by show fu (pK s) 5 0 5 = 0; exact fu_s
              omega
            · exact rw_cg (jF_mv (Mv_bl h.1 (by omega) (by omega))) h0
theorem prk_RW {f : Int → Int} {n : Int} {σ : St} {s : Ps} (hF : σ 1205 382 = f) (hn : σ 1207 382 0 = n) (hf : tpOk f n) (h : fst0 n (rdOn f n s)) : rwK (pK (prk f n s)) := by
  have m1 := prk1_M hf h
  have j0 := prk0_J hf h
  have w1 : rwK (pK (prk1 f n (rdOn f n s))) := by
    have e : prk1 f n (rdOn f n s) = stpL f n (prk0 f n (rdOn f n s)) := rfl
    rw [e]
    refine rw_cg (stp_F hf j0.1.1) (fun i i0 i1 => ?_)
    rw [j0.2.2 5 (by omega) (by omega) (by omega) (by omega)] at i1
    omega
  have lp : ∀ (m : Nat) (s : Ps), mL n s → rwK (pK s) → rwK (pK (lpG (fun s => decide (pB s = 0 ∧ pT s ≠ 0)) (lin f n) m s)) := by
    intro m
    induction m with
    | zero => intro s _ h; exact h
    | succ m ih =>
      intro s hs h
      simp only [lpG]
      split
      · have j := lin0_J hF hn hf hs.1
        exact ih _ (lin_M hF hn hf hs).1 (rw_cg (stp_F hf j.1.1) (lin0_RW hf hs.1 h))
      · exact h
  exact lp 901 _ m1 w1
/-! hedges beside -/
theorem cnt_or {p q : Int → Bool} : ∀ n : Nat, (∀ k : Nat, k < n → ¬ (p k = true ∧ q k = true)) → cnt (fun k => p k || q k) n = cnt p n + cnt q n
  | 0, _ => rfl
  | n + 1, h => by
    have ih := cnt_or n (fun k hk => h k (by omega))
    have hn := h n (by omega)
    rw [show cnt (fun k => p k || q k) (n + 1) = cnt (fun k => p k || q k) n + (if (p n || q n) = true then 1 else 0) from rfl, show cnt p (n + 1) = cnt p n + (if p n = true then 1 else 0) from rfl, show cnt q (n + 1) = cnt q n + (if q n = true then 1 else 0) from rfl, ih]
    rcases Bool.eq_false_or_eq_true (p n) with e1 | e1 <;> rcases Bool.eq_false_or_eq_true (q n) with e2 | e2
    · exact absurd ⟨e1, e2⟩ hn
    · simp [e1, e2]; omega
    · simp [e1, e2]; omega
    · simp [e1, e2]
theorem cnt_one {v : Int} {b : Bool} (v0 : 0 ≤ v) : ∀ n : Nat, cnt (fun k => decide (k = v) && b) n = if b = true ∧ v < n then 1 else 0
  | 0 => by
    rw [if_neg (by omega)]; rfl
  | n + 1 => by
    rw [show cnt (fun k => decide (k = v) && b) (n + 1) = cnt (fun k => decide (k = v) && b) n + (if (decide ((n : Int) = v) && b) = true then 1 else 0) from rfl, cnt_one v0 n]
    by_cases hb : b = true
    · by_cases e : (n : Int) = v
      · simp only [hb, e, decide_true, Bool.and_self, if_true, true_and]
        rw [if_neg (by omega), if_pos (by omega)]; rfl
      · simp only [hb, e, decide_false, Bool.false_and, Bool.false_eq_true, if_false, true_and]
        by_cases e2 : v < n
        · rw [if_pos e2, if_pos (by omega)]; rfl
        · rw [if_neg e2, if_neg (by omega)]; rfl
    · have hb2 : b = false := by cases b; rfl; exact absurd rfl hb
      simp [hb2]
def nrE (W H : Int) (g : Int → Bool) (z e : Int) : Bool := decide (nbC W H z e ≠ -1) && g (nbC W H z e)
theorem nr_cnt {W H z : Int} {g : Int → Bool} (h : wh2 W H) (z0 : 0 ≤ z) (z1 : z < W * H) : cnt (fun k => nbB W H (fun i => decide (i = z)) k && g k) 64 = (if nrE W H g z 0 then 1 else 0) + (if nrE W H g z 1 then 1 else 0) + (if nrE W H g z 2 then 1 else 0) + (if nrE W H g z 3 then 1 else 0) := by
  have hm := wh_mul h
  -- one direction
  have one : ∀ e : Int, 0 ≤ e → e < 4 → cnt (fun k => decide (k = nbC W H z e) && nrE W H g z e) 64 = if nrE W H g z e then 1 else 0 := by
    intro e e0 e1
    by_cases n : nbC W H z e = -1
    · have hf : nrE W H g z e = false := by unfold nrE; rw [n]; rfl
      rw [hf]
      have : ∀ n : Nat, cnt (fun k => decide (k = nbC W H z e) && false) n = 0 := by
        intro n
        induction n with
        | zero => rfl
        | succ n ih => simp only [cnt]; rw [ih]; simp
      rw [this]; rfl
    · have hi := nb_in h z0 z1 n
      rw [cnt_one hi.1]
      by_cases b : nrE W H g z e = true
      · rw [if_pos ⟨b, by have := hi.2.1; omega⟩, if_pos b]
      · rw [if_neg (fun w => b w.1), if_neg b]
  have hne : ∀ e e' : Int, 0 ≤ e → e < 4 → 0 ≤ e' → e' < 4 → e ≠ e' → nbC W H z e ≠ -1 → nbC W H z e' ≠ -1 → nbC W H z e ≠ nbC W H z e' := by
    intro e e' a b c dd ne n1 n2 he
    have s1 := nb_sym h z0 z1 a b n1
    have s2 := nb_sym h z0 z1 c dd n2
    rw [he] at s1
    -- from the other, both sides lead to z
    have hi := nb_in h z0 z1 n2
    obtain ⟨w1, w2, w3, w4⟩ := h
    have q1 : ∀ e : Int, 0 ≤ e → e < 4 → nbC W H z e ≠ -1 → nbC W H z e = if e = 0 then z - W else if e = 1 then z - 1 else if e = 2 then z + 1 else z + W := by
      intro e a b n
      have : e = 0 ∨ e = 1 ∨ e = 2 ∨ e = 3 := by omega
      rcases this with x | x | x | x <;> subst x
      · rw [show nbC W H z 0 = if 0 < z / W then z - W else -1 from rfl] at n ⊢
        split at n
        · rename_i q; rw [if_pos q]; rfl
        · exact absurd rfl n
      · rw [show nbC W H z 1 = if 0 < z % W then z - 1 else -1 from rfl] at n ⊢
        split at n
        · rename_i q; rw [if_pos q]; rfl
        · exact absurd rfl n
      · rw [show nbC W H z 2 = if z % W < W - 1 then z + 1 else -1 from rfl] at n ⊢
        split at n
        · rename_i q; rw [if_pos q]; rfl
        · exact absurd rfl n
      · rw [show nbC W H z 3 = if z / W < H - 1 then z + W else -1 from rfl] at n ⊢
        split at n
        · rename_i q; rw [if_pos q]; rfl
        · exact absurd rfl n
    rw [q1 e a b n1, q1 e' c dd n2] at he
    have x1 : e = 0 ∨ e = 1 ∨ e = 2 ∨ e = 3 := by omega
    have x2 : e' = 0 ∨ e' = 1 ∨ e' = 2 ∨ e' = 3 := by omega
    rcases x1 with x | x | x | x <;> rcases x2 with y | y | y | y <;> subst x <;> subst y <;> simp at he <;> omega
  have dis : ∀ e e' : Int, 0 ≤ e → e < 4 → 0 ≤ e' → e' < 4 → e ≠ e' → ∀ k : Int, ¬ ((decide (k = nbC W H z e) && nrE W H g z e) = true ∧ (decide (k = nbC W H z e') && nrE W H g z e') = true) := by
    intro e e' a b c dd ne k hh
    simp only [nrE, Bool.and_eq_true, decide_eq_true_eq] at hh
    exact hne e e' a b c dd ne hh.1.2.1 hh.2.2.1 (hh.1.1.symm.trans hh.2.1)
  rw [← one 0 (by omega) (by omega), ← one 1 (by omega) (by omega), ← one 2 (by omega) (by omega), ← one 3 (by omega) (by omega)]
  rw [← cnt_or 64 (fun k _ => dis 0 1 (by omega) (by omega) (by omega) (by omega) (by omega) k)]
  rw [← cnt_or 64 (fun k _ => fun hh => by
    rw [Bool.or_eq_true] at hh
    rcases hh.1 with w | w
    · exact dis 0 2 (by omega) (by omega) (by omega) (by omega) (by omega) k ⟨w, hh.2⟩
    · exact dis 1 2 (by omega) (by omega) (by omega) (by omega) (by omega) k ⟨w, hh.2⟩)]
  rw [← cnt_or 64 (fun k _ => fun hh => by
    simp only [Bool.or_eq_true] at hh
    rcases hh.1 with (w | w) | w
    · exact dis 0 3 (by omega) (by omega) (by omega) (by omega) (by omega) k ⟨w, hh.2⟩
    · exact dis 1 3 (by omega) (by omega) (by omega) (by omega) (by omega) k ⟨w, hh.2⟩
    · exact dis 2 3 (by omega) (by omega) (by omega) (by omega) (by omega) k ⟨w, hh.2⟩)]
  refine cnt_cg 64 fun k hk => ?_
  have key : (nbB W H (fun i => decide (i = z)) k && g k) = true ↔ ((decide ((k : Int) = nbC W H z 0) && nrE W H g z 0 || decide ((k : Int) = nbC W H z 1) && nrE W H g z 1) || decide ((k : Int) = nbC W H z 2) && nrE W H g z 2) || decide ((k : Int) = nbC W H z 3) && nrE W H g z 3 := by
    constructor
    · intro hh
      rw [Bool.and_eq_true] at hh
      obtain ⟨hin, e, e0, e1, n1, e2⟩ := nbB_ex hh.1
      have e3 := of_decide_eq_true e2
      have sy := nb_sym h hin.1 hin.2 e0 e1 n1
      rw [e3] at sy
      have b : nrE W H g z (3 - e) = true := by unfold nrE; rw [sy, hh.2, decide_eq_true (by omega : (k : Int) ≠ -1)]; rfl
      have x1 : e = 0 ∨ e = 1 ∨ e = 2 ∨ e = 3 := by omega
      rcases x1 with x | x | x | x <;> subst x
      · rw [show (3 : Int) - 0 = 3 from rfl] at sy b; simp [sy, b]
      · rw [show (3 : Int) - 1 = 2 from rfl] at sy b; simp [sy, b]
      · rw [show (3 : Int) - 2 = 1 from rfl] at sy b; simp [sy, b]
      · rw [show (3 : Int) - 3 = 0 from rfl] at sy b; simp [sy, b]
    · intro hh
      have ex : ∃ e : Int, 0 ≤ e ∧ e < 4 ∧ (k : Int) = nbC W H z e ∧ nrE W H g z e = true := by
        simp only [Bool.or_eq_true, Bool.and_eq_true, decide_eq_true_eq] at hh
        rcases hh with ((w | w) | w) | w
        · exact ⟨0, by omega, by omega, w⟩
        · exact ⟨1, by omega, by omega, w⟩
        · exact ⟨2, by omega, by omega, w⟩
        · exact ⟨3, by omega, by omega, w⟩
      obtain ⟨e, e0, e1, hk2, hb⟩ := ex
      unfold nrE at hb
      rw [Bool.and_eq_true, decide_eq_true_eq] at hb
      have hi := nb_in h z0 z1 hb.1
      have sy := nb_sym h z0 z1 e0 e1 hb.1
      rw [hk2, hb.2, Bool.and_true]
      have he : nbE W H (fun i => decide (i = z)) (nbC W H z e) (3 - e) = true := by
        unfold nbE
        rw [sy, decide_eq_true (by omega : z ≠ -1)]
        show (true && decide (z = z)) = true
        simp
      unfold nbB inB
      rw [decide_eq_true (⟨hi.1, hi.2.1⟩ : 0 ≤ nbC W H z e ∧ nbC W H z e < W * H), Bool.true_and]
      have x1 : e = 0 ∨ e = 1 ∨ e = 2 ∨ e = 3 := by omega
      rcases x1 with x | x | x | x <;> subst x
      · rw [show (3 : Int) - 0 = 3 from rfl] at he; rw [he]; simp
      · rw [show (3 : Int) - 1 = 2 from rfl] at he; rw [he]; simp
      · rw [show (3 : Int) - 2 = 1 from rfl] at he; rw [he]; simp
      · rw [show (3 : Int) - 3 = 0 from rfl] at he; rw [he]; simp
  exact Bool.eq_iff_iff.mpr key
