/-! ===== a law that is read can be run ===== -/
def sgR (fc cd : Int → Int) (a : Nat) : Nat → List Int → List Int
  | 0, L => L
  | k + 1, L => lwS fc (cd ((a + k : Nat) : Int)) (sgR fc cd a k L)
def z01 (v : Int) : Prop := v = 0 ∨ v = 1
def rgV (v : Int) : Prop := -1000000 ≤ v ∧ v ≤ 1000000
def rgL (L : List Int) : Prop := ∀ v ∈ L, rgV v
def fcOk (fc : Int → Int) : Prop := ∀ j, 0 ≤ j → j ≤ 5 → 0 ≤ fc j ∧ fc j ≤ 1000
def stO (c : Int) (l : List Int) (M : Nat) : Prop := (0 ≤ c ∧ c ≤ 1014) ∧ (c = 1006 → ∃ v r, l = v :: r ∧ z01 v) ∧ (1006 < c → ∃ y x r, l = y :: x :: r ∧ (1013 ≤ c → z01 x ∧ z01 y)) ∧ l.length ≤ M ∧ rgL l
def Rn (fc cd : Int → Int) (a k : Nat) (L : List Int) (B : Nat) (ty : Prop) : Prop := (∃ v, sgR fc cd a k L = v :: L ∧ rgV v ∧ (ty → z01 v)) ∧ ∀ j, j < k → stO (cd ((a + j : Nat) : Int)) (sgR fc cd a j L) (L.length + B)
theorem rgL_c {v : Int} {L : List Int} (h : rgV v) (hL : rgL L) : rgL (v :: L) := fun w hw => by
  rcases List.mem_cons.mp hw with e | e
  · rw [e]; exact h
  · exact hL w e
theorem sgR_cg {fc cd cd' : Int → Int} {a : Nat} {L : List Int} : ∀ k : Nat, (∀ j : Nat, a ≤ j → j < a + k → cd j = cd' j) → sgR fc cd a k L = sgR fc cd' a k L
  | 0, _ => rfl
  | k + 1, h => by
    simp only [sgR]
    rw [sgR_cg k (fun j a b => h j a (by omega)), h (a + k) (by omega) (by omega)]
theorem Rn_cg {fc cd cd' : Int → Int} {a k : Nat} {L : List Int} {B : Nat} {ty : Prop} (h : ∀ j : Nat, a ≤ j → j < a + k → cd j = cd' j) (hr : Rn fc cd a k L B ty) : Rn fc cd' a k L B ty := by
  obtain ⟨⟨v, h1, h2⟩, h3⟩ := hr
  refine ⟨⟨v, by rw [← sgR_cg k h]; exact h1, h2⟩, fun j hj => ?_⟩
  rw [← sgR_cg j (fun i a b => h i a (by omega)), ← h (a + j) (by omega) (by omega)]
  exact h3 j hj
theorem stO_m {c : Int} {l : List Int} {M M' : Nat} (h : stO c l M) (hm : M ≤ M') : stO c l M' := ⟨h.1, h.2.1, h.2.2.1, by have := h.2.2.2.1; omega, h.2.2.2.2⟩
theorem Rn_m {fc cd : Int → Int} {a k : Nat} {L : List Int} {B B' : Nat} {ty ty' : Prop} (hB : B ≤ B') (ht : ty' → ty) (hr : Rn fc cd a k L B ty) : Rn fc cd a k L B' ty' := by
  obtain ⟨⟨v, h1, h2, h4⟩, h3⟩ := hr
  exact ⟨⟨v, h1, h2, fun z => h4 (ht z)⟩, fun j hj => stO_m (h3 j hj) (by omega)⟩
theorem sgR_ad {fc cd : Int → Int} {a k : Nat} {L : List Int} : ∀ j : Nat, sgR fc cd a (k + j) L = sgR fc cd (a + k) j (sgR fc cd a k L)
  | 0 => rfl
  | j + 1 => by
    show lwS fc (cd ((a + (k + j) : Nat) : Int)) (sgR fc cd a (k + j) L) = lwS fc (cd ((a + k + j : Nat) : Int)) (sgR fc cd (a + k) j (sgR fc cd a k L))
    rw [sgR_ad j, Nat.add_assoc]
theorem Rn_push {fc cd : Int → Int} {a : Nat} {L : List Int} {B : Nat} (hf : fcOk fc) (hL : rgL L) (c0 : 0 ≤ cd (a : Int)) (c1 : cd (a : Int) < 1006) (hB : 1 ≤ B) : Rn fc cd a 1 L B False := by
  have e : sgR fc cd a 1 L = (if cd (a : Int) < 1000 then cd (a : Int) else fc (cd (a : Int) - 1000)) :: L := by
    show lwS fc (cd ((a + 0 : Nat) : Int)) L = _
    unfold lwS
    rw [show ((a + 0 : Nat) : Int) = (a : Int) by omega, if_pos c1]
  refine ⟨⟨_, e, ?_, fun z => z.elim⟩, fun j hj => ?_⟩
  · split
    · exact ⟨by omega, by omega⟩
    · have := hf (cd (a : Int) - 1000) (by omega) (by omega)
      exact ⟨by omega, by omega⟩
  · have hj : j = 0 := by omega
    subst hj
    rw [show ((a + 0 : Nat) : Int) = (a : Int) by omega]
    exact ⟨⟨c0, by omega⟩, fun z => by omega, fun z => by omega, by show L.length ≤ _; omega, hL⟩
theorem Rn_not {fc cd : Int → Int} {a k : Nat} {L : List Int} {B : Nat} (h : Rn fc cd a k L B True) (hL : rgL L) (hc : cd ((a + k : Nat) : Int) = 1006) (hB : 1 ≤ B) : Rn fc cd a (k + 1) L B True := by
  obtain ⟨⟨v, h1, h2, h4⟩, h3⟩ := h
  have hv := h4 trivial
  have e : sgR fc cd a (k + 1) L = (1 - v) :: L := by
    show lwS fc (cd ((a + k : Nat) : Int)) (sgR fc cd a k L) = _
    rw [h1, hc]
    rfl
  refine ⟨⟨1 - v, e, ?_, fun _ => ?_⟩, fun j hj => ?_⟩
  · rcases hv with z | z <;> (rw [z]; exact ⟨by omega, by omega⟩)
  · rcases hv with z | z
    · exact Or.inr (by omega)
    · exact Or.inl (by omega)
  · by_cases e2 : j = k
    · subst e2
      rw [h1, hc]
      exact ⟨⟨by omega, by omega⟩, fun _ => ⟨v, L, rfl, hv⟩, fun z => by omega, by simp only [List.length_cons]; omega, rgL_c h2 hL⟩
    · exact h3 j (by omega)
theorem an_01 : an 0 0 = 0 ∧ an 0 1 = 0 ∧ an 1 0 = 0 ∧ an 1 1 = 1 ∧ oo 0 0 = 0 ∧ oo 0 1 = 1 ∧ oo 1 0 = 1 ∧ oo 1 1 = 1 := by decide
theorem jn_rg {c x y : Int} (c0 : 1007 ≤ c) (c1 : c ≤ 1014) (h : 1013 ≤ c → z01 x ∧ z01 y) : rgV (jn c x y) ∧ (1010 ≤ c → z01 (jn c x y)) := by
  have q := an_01
  have hc : c = 1007 ∨ c = 1008 ∨ c = 1009 ∨ c = 1010 ∨ c = 1011 ∨ c = 1012 ∨ c = 1013 ∨ c = 1014 := by omega
  rcases hc with e | e | e | e | e | e | e | e <;> subst e
  · exact ⟨by show rgV (clm (x + y)); unfold rgV clm; omega, fun z => by omega⟩
  · exact ⟨by show rgV (clm (x - y)); unfold rgV clm; omega, fun z => by omega⟩
  · exact ⟨by show rgV (clm (x * y)); unfold rgV clm; omega, fun z => by omega⟩
  · have : jn 1010 x y = if x = y then 1 else 0 := rfl
    rw [this]
    unfold rgV z01
    split <;> omega
  · have : jn 1011 x y = if x < y then 1 else 0 := rfl
    rw [this]
    unfold rgV z01
    split <;> omega
  · have : jn 1012 x y = if y < x then 1 else 0 := rfl
    rw [this]
    unfold rgV z01
    split <;> omega
  · obtain ⟨hx, hy⟩ := h (by omega)
    have : jn 1013 x y = an x y := rfl
    rw [this]
    unfold rgV z01
    rcases hx with z | z <;> rcases hy with w | w <;> subst z <;> subst w <;> omega
  · obtain ⟨hx, hy⟩ := h (by omega)
    have : jn 1014 x y = oo x y := rfl
    rw [this]
    unfold rgV z01
    rcases hx with z | z <;> rcases hy with w | w <;> subst z <;> subst w <;> omega
theorem Rn_bin {fc cd : Int → Int} {a k1 k2 : Nat} {L : List Int} {B1 B2 B : Nat} {t1 t2 ty : Prop} (h1 : Rn fc cd a k1 L B1 t1) (h2 : ∀ v, rgV v → (t1 → z01 v) → Rn fc cd (a + k1) k2 (v :: L) B2 t2) (hL : rgL L) (c0 : 1007 ≤ cd ((a + k1 + k2 : Nat) : Int)) (c1 : cd ((a + k1 + k2 : Nat) : Int) ≤ 1014) (hc : 1013 ≤ cd ((a + k1 + k2 : Nat) : Int) → t1 ∧ t2) (hty : ty → 1010 ≤ cd ((a + k1 + k2 : Nat) : Int)) (b1 : B1 ≤ B) (b2 : B2 + 1 ≤ B) (b3 : 2 ≤ B) : Rn fc cd a (k1 + k2 + 1) L B ty := by
  obtain ⟨⟨v, g1, g2, g4⟩, g3⟩ := h1
  obtain ⟨⟨w, e1, e2, e4⟩, e3⟩ := h2 v g2 g4
  have s1 : sgR fc cd a (k1 + k2) L = w :: v :: L := by rw [sgR_ad, g1, e1]
  have e : sgR fc cd a (k1 + k2 + 1) L = jn (cd ((a + k1 + k2 : Nat) : Int)) v w :: L := by
    show lwS fc (cd ((a + (k1 + k2) : Nat) : Int)) (sgR fc cd a (k1 + k2) L) = _
    rw [s1, ← Nat.add_assoc]
    unfold lwS
    rw [if_neg (by omega), if_neg (by omega)]
  have jr := jn_rg (x := v) (y := w) c0 c1 (fun z => ⟨g4 (hc z).1, e4 (hc z).2⟩)
  refine ⟨⟨_, e, jr.1, fun z => jr.2 (hty z)⟩, fun j hj => ?_⟩
  by_cases a1 : j < k1
  · exact stO_m (g3 j a1) (by omega)
  · by_cases a2 : j < k1 + k2
    · have := e3 (j - k1) (by omega)
      rw [show a + k1 + (j - k1) = a + j by omega] at this
      rw [show j = k1 + (j - k1) by omega, sgR_ad, g1]
      refine stO_m ?_ (M := (v :: L).length + B2) (by simp only [List.length_cons]; omega)
      rw [show a + (k1 + (j - k1)) = a + j by omega]
      exact this
    · have hj : j = k1 + k2 := by omega
      subst hj
      rw [s1, ← Nat.add_assoc]
      exact ⟨⟨by omega, c1⟩, fun z => by omega, fun _ => ⟨w, v, L, rfl, fun z => ⟨g4 (hc z).1, e4 (hc z).2⟩⟩, by simp only [List.length_cons]; omega, rgL_c e2 (rgL_c g2 hL)⟩
/-- what a method of the reader lays can be run -/
def PR (n D : Int) (F : Ps → Ps) (B : Nat) (ty : Prop) : Prop := ∀ s, pO n s → kO s → pD s = D → (D = 7 → pB s ≠ 0) → pB (F s) = 0 → ∀ fc, fcOk fc → ∀ L, rgL L → Rn fc (cdK (pK (F s))) (pK s 5).toNat (pK (F s) 5 - pK s 5).toNat L B ty
theorem cdK_e {K K' : Int → Int} {j : Int} (h : K' (988 + j) = K (988 + j)) : cdK K' j = cdK K j := by unfold cdK; rw [h]
/-- later steps leave it as it is -/
theorem Rn_lo {n δ : Int} {fc : Int → Int} {a k : Nat} {L : List Int} {B : Nat} {ty : Prop} {s s' : Ps} (hl : Lo n δ s s') (hk : (a : Int) + k ≤ pK s 5) (h : Rn fc (cdK (pK s)) a k L B ty) : Rn fc (cdK (pK s')) a k L B ty := Rn_cg (fun j h1 h2 => (cdK_e (hl.2.2.2.1 _ (by omega) (by omega))).symm) h
theorem lay_K {c : Int} {s : Ps} (h : pB s = 0) : pK (lay c s) = fu (fu (pK s) (988 + pK s 5) c) 5 (pK s 5 + 1) := by unfold lay; rw [if_pos h]; rfl
theorem lay_c {c : Int} {s : Ps} (h : pB s = 0) (h0 : 0 ≤ pK s 5) : pK (lay c s) 5 = pK s 5 + 1 ∧ cdK (pK (lay c s)) (pK s 5) = cdU c ∧ ∀ j, 0 ≤ j → j < pK s 5 → cdK (pK (lay c s)) j = cdK (pK s) j := by
  rw [lay_K h]
  refine ⟨fu_s, ?_, fun j j0 j1 => ?_⟩
  · unfold cdK
    rw [fu_n (by omega), fu_s]
  · unfold cdK
    rw [fu_n (by omega), fu_n (by omega)]
theorem lay_b {c : Int} {s : Ps} (h : pB (lay c s) = 0) : pB s = 0 := by rw [flt_lay.2.2.2.2.1] at h; exact h
/-- a second part and what joins both -/
theorem Rn_join {f : Int → Int} {n D c : Int} {F : Ps → Ps} {B1 B2 B : Nat} {t1 t2 ty : Prop} {fc : Int → Int} {L : List Int} {s : Ps} {a : Nat} (hf : tpOk f n) (hD : D ≤ 6) (hL2 : rL n D F) (hP : PR n D F B2 t2) (hs : pO n s) (hk : kO s) (hd : pD s = D) (ha : (a : Int) ≤ pK s 5) (hfc : fcOk fc) (hL : rgL L) (h1 : Rn fc (cdK (pK s)) a (pK s 5 - a).toNat L B1 t1) (hb : pB (lay c (F (rdOn f n s))) = 0) (c0 : 1007 ≤ cdU c) (c1 : cdU c ≤ 1014) (hc : 1013 ≤ cdU c → t1 ∧ t2) (hty : ty → 1010 ≤ cdU c) (b1 : B1 ≤ B) (b2 : B2 + 1 ≤ B) (b3 : 2 ≤ B) : Rn fc (cdK (pK (lay c (F (rdOn f n s))))) a (pK (lay c (F (rdOn f n s))) 5 - a).toNat L B ty := by
  have r := rdOn_O hf hs
  have rl := Lo_rd hf hs
  have rk := Lo_k rl hk
  have hb2 := lay_b hb
  have l2 := hL2 _ r.1 rk hd (fun z => by omega)
  have p2 := hP _ r.1 rk hd (fun z => by omega) hb2 fc hfc
  have k5 : pK (rdOn f n s) 5 = pK s 5 := rfl
  rw [k5] at p2
  have l3 := l2.2.2.1
  rw [k5] at l3
  have h0 := hk.1
  have lc := lay_c (c := c) hb2 (by omega)
  have l12 := Lo_t rl l2
  generalize hU : F (rdOn f n s) = U at *
  have e1 : Rn fc (cdK (pK (lay c U))) a (pK s 5 - a).toNat L B1 t1 := Rn_cg (fun j j0 j1 => by
    rw [lc.2.2 j (by omega) (by omega)]
    exact (cdK_e (l12.2.2.2.1 _ (by omega) (by omega))).symm) h1
  have e2 : ∀ v, rgV v → (t1 → z01 v) → Rn fc (cdK (pK (lay c U))) (a + (pK s 5 - a).toNat) (pK U 5 - pK s 5).toNat (v :: L) B2 t2 := fun v hv _ => by
    rw [show a + (pK s 5 - a).toNat = (pK s 5).toNat by omega]
    exact Rn_cg (fun j j0 j1 => (lc.2.2 j (by omega) (by omega)).symm) (p2 (v :: L) (rgL_c hv hL))
  have e3 : ((a + (pK s 5 - a).toNat + (pK U 5 - pK s 5).toNat : Nat) : Int) = pK U 5 := by omega
  have := Rn_bin (B := B) (ty := ty) e1 e2 hL (by rw [e3, lc.2.1]; exact c0) (by rw [e3, lc.2.1]; exact c1) (by rw [e3, lc.2.1]; exact hc) (by rw [e3, lc.2.1]; exact hty) b1 b2 b3
  rwa [show (pK s 5 - a).toNat + (pK U 5 - pK s 5).toNat + 1 = (pK (lay c U) 5 - a).toNat by rw [lc.1]; omega] at this
theorem Rn_lp {f : Int → Int} {n D : Int} {F : Ps → Ps} {B2 B : Nat} {ty : Prop} {cnd : Ps → Bool} {c : Ps → Int} {fc : Int → Int} {L : List Int} {a : Nat} (hf : tpOk f n) (hD : D ≤ 6) (hL2 : rL n D F) (hP : PR n D F B2 ty) (hfc : fcOk fc) (hL : rgL L) (hcn : ∀ s, cnd s = true → pB s = 0 ∧ pT s ≠ 0) (hcc : ∀ s, 1007 ≤ cdU (c s) ∧ cdU (c s) ≤ 1014 ∧ (1013 ≤ cdU (c s) → ty) ∧ (ty → 1010 ≤ cdU (c s))) (b2 : B2 + 1 ≤ B) (b3 : 2 ≤ B) : ∀ (m : Nat) (s : Ps), pO n s → kO s → pD s = D → (a : Int) ≤ pK s 5 → Rn fc (cdK (pK s)) a (pK s 5 - a).toNat L B ty → pB (lpG cnd (fun s => lay (c s) (F (rdOn f n s))) m s) = 0 → Rn fc (cdK (pK (lpG cnd (fun s => lay (c s) (F (rdOn f n s))) m s))) a (pK (lpG cnd (fun s => lay (c s) (F (rdOn f n s))) m s) 5 - a).toNat L B ty
  | 0, s, _, _, _, _, h, _ => h
  | m + 1, s, hs, hk, hd, ha, h, hb => by
    simp only [lpG] at hb ⊢
    split
    · rename_i hc
      rw [if_pos hc] at hb
      have hh := hcn s hc
      have l := Lo_body (c := c s) hf (fun s a b e => hL2 s a b e (fun z => by omega)) hs hk hd hh.1 hh.2
      have hbb : pB (lay (c s) (F (rdOn f n s))) = 0 := by
        have := (lpG_Lo (n := n) (D := D) (c := cnd) (b := fun s => lay (c s) (F (rdOn f n s))) (fun t ht hkt hdt hct => Lo_body hf (fun s a b e => hL2 s a b e (fun z => by omega)) ht hkt hdt (hcn t hct).1 (hcn t hct).2) m _ l.1 (Lo_k l hk) (by rw [l.2.1]; omega)).2.2.2.2 hb
        exact this.1
      have q := hcc s
      have j := Rn_join (B := B) (ty := ty) hf hD hL2 hP hs hk hd ha hfc hL h hbb q.1 q.2.1 (fun z => ⟨q.2.2.1 z, q.2.2.1 z⟩) q.2.2.2 (Nat.le_refl B) b2 b3
      exact Rn_lp hf hD hL2 hP hfc hL hcn hcc b2 b3 m _ l.1 (Lo_k l hk) (by rw [l.2.1]; omega) (by have := l.2.2.1; omega) j hb
    · exact h
theorem PR_lp {f : Int → Int} {n D : Int} {F : Ps → Ps} {B2 B : Nat} {ty : Prop} {cnd : Ps → Bool} {c : Ps → Int} {m : Nat} (hf : tpOk f n) (hD : D ≤ 6) (hL2 : rL n D F) (hP : PR n D F B2 ty) (hcn : ∀ s, cnd s = true → pB s = 0 ∧ pT s ≠ 0) (hcc : ∀ s, 1007 ≤ cdU (c s) ∧ cdU (c s) ≤ 1014 ∧ (1013 ≤ cdU (c s) → ty) ∧ (ty → 1010 ≤ cdU (c s))) (b2 : B2 + 1 ≤ B) (b3 : 2 ≤ B) : PR n D (fun s => lpG cnd (fun s => lay (c s) (F (rdOn f n s))) m (F s)) B ty := by
  intro s hs hk hd h7 hb fc hfc L hL
  have l := hL2 s hs hk hd h7
  have h0 := hk.1
  have lp := lpG_Lo (n := n) (D := D) (c := cnd) (b := fun s => lay (c s) (F (rdOn f n s))) (fun t ht hkt hdt hct => Lo_body hf (fun s a b e => hL2 s a b e (fun z => by omega)) ht hkt hdt (hcn t hct).1 (hcn t hct).2) m _ l.1 (Lo_k l hk) (by rw [l.2.1]; omega)
  have hb1 := (lp.2.2.2.2 hb).1
  have p := hP s hs hk hd h7 hb1 fc hfc L hL
  have e : ((pK s 5).toNat : Int) = pK s 5 := by omega
  have p2 : Rn fc (cdK (pK (F s))) (pK s 5).toNat (pK (F s) 5 - ((pK s 5).toNat : Int)).toNat L B ty := by rw [e]; exact Rn_m (by omega) (fun z => z) p
  have := Rn_lp hf hD hL2 hP hfc hL hcn hcc b2 b3 m (F s) l.1 (Lo_k l hk) (by rw [l.2.1]; omega) (by have := l.2.2.1; omega) p2 hb
  rw [e] at this
  exact this
