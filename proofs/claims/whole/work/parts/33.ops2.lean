/-! ===== rows of the heap, of calls and ends (by program) ===== -/
theorem ob_lt {ci a : Nat} (h : ob ci a) : a < 406 := by
  have h' : sh a = (2, ci, 0, 0, 0) := h
  exact sh_lt (by rw [h']; show (2 : Nat) ≠ 9; decide)
theorem E_ob {T : Tt} {σ : St} {ci a : Nat} (h : ob ci a) : (E T σ).2.2.2 a = some (.inr (ci, (FD ci).map (fv σ a))) := E_at (s := (2, ci, 0, 0, 0)) h (fun z => by cases z)
theorem E_gf {T : Tt} {σ : St} {y : vmM} {pc nx r ci c d : Nat} {L st : List Value} {Q : vmO → vmH → Prop} {g : Nat × Nat} (ht : vmTab y pc = some (15, nx, 0, ci, c, [])) (h : ob ci r) (hg : (FD ci)[c]? = some g) : Wp d y pc L (.ref r :: st) (E T σ) Q = Wp d y nx L (fv σ r g :: st) (E T σ) Q := by
  refine wp_step ht (fun z => by cases z) (fun z => by cases z) (fun z => by cases z) ?_
  show vmO15 nx ci c L (.ref r :: st) (E T σ) = _
  unfold vmO15
  dsimp only
  rw [E_ob h]
  dsimp only
  rw [if_pos rfl, List.getElem?_map, hg]
  rfl
theorem E_pf {T : Tt} {σ : St} {y : vmM} {pc nx r ci c d k tag : Nat} {L st : List Value} {Q : vmO → vmH → Prop} {x : Value} {v : Int} (ht : vmTab y pc = some (16, nx, 0, ci, c, [])) (h : ob ci r) (hg : (FD ci)[c]? = some (k, tag)) (hk : k ≠ 2) (hx : fv (upA σ tag r fun _ => v) r (k, tag) = x) (hf : vmFit (vmTy ci c) x = true) : Wp d y pc L (x :: .ref r :: st) (E T σ) Q = Wp d y nx L st (E T (upA σ tag r fun _ => v)) Q := by
  refine wp_step ht (fun z => by cases z) (fun z => by cases z) (fun z => by cases z) ?_
  show vmO16 nx ci c L (x :: .ref r :: st) (E T σ) = _
  unfold vmO16
  dsimp only
  rw [E_ob h]
  dsimp only
  have hcl : c < (FD ci).length := by
    rcases Nat.lt_or_ge c (FD ci).length with h | h
    · exact h
    · rw [List.getElem?_eq_none h] at hg; cases hg
  rw [if_pos ⟨rfl, by rw [List.length_map]; exact hcl, (Nat.blt_eq).mpr (by have := ob_lt h; omega), hf⟩, E_setF h hg hk hx]
theorem va_up_i {f : Int → Int} {z v : Int} (h0 : 0 ≤ z) (h1 : z < 2147483648) (i : Nat) : upd (fun i : Nat => i32 (f i)) (i32 z).toNatClampNeg (i32 v) i = i32 (fu f z v i) := by
  have hc := i32_cl h0 h1
  unfold upd fu
  by_cases h : i = (i32 z).toNatClampNeg
  · rw [if_pos h, if_pos (by omega)]
  · rw [if_neg h, if_neg (by omega)]
theorem va_up_l {f : Int → Int} {z v : Int} (h0 : 0 ≤ z) (h1 : z < 2147483648) (i : Nat) : va_up (fun i : Nat => i64 (f i)) (i32 z).toNatClampNeg (i64 v) i = i64 (fu f z v i) := by
  have hc := i32_cl h0 h1
  unfold va_up fu
  by_cases h : i = (i32 z).toNatClampNeg
  · rw [if_pos h, if_pos (by omega)]
  · rw [if_neg h, if_neg (by omega)]
theorem fit_i (x : Int32) : vmFit .int (.int x) = true := by unfold vmFit; simp [fits, narrow]
theorem fit_l (x : Int64) : vmFit .long (.long x) = true := by unfold vmFit; simp [fits, narrow]
theorem fit_a {ty : FieldType} (x : Nat) : vmFit (.array ty) (.ref x) = true := by unfold vmFit; simp [fits, narrow]
theorem fit_z {v : Int} (h : v = 0 ∨ v = 1) : vmFit .boolean (.int (i32 v)) = true := by rcases h with rfl | rfl <;> decide
abbrev P_gI (y : vmM) (pc nx : Nat) (ci tag : Nat) : Prop := ∀ (d : Nat) (r : Nat) (L st : List Value) (T : Tt) (σ : St) (Q : vmO → vmH → Prop) (_ : ob ci r), Wp d y pc L (.ref r :: st) (E T σ) Q = Wp d y nx L (.int (i32 (σ tag r 0)) :: st) (E T σ) Q
theorem o_gI {ci tag : Nat} {y : vmM} {pc nx c : Nat} (ht : vmTab y pc = some (15, nx, 0, ci, c, [])) (hg : (FD ci)[c]? = some (0, tag)) : P_gI y pc nx ci tag := by
  intro d r L st T σ Q h
  exact E_gf ht h hg
abbrev P_gJ (y : vmM) (pc nx : Nat) (ci tag : Nat) : Prop := ∀ (d : Nat) (r : Nat) (L st : List Value) (T : Tt) (σ : St) (Q : vmO → vmH → Prop) (_ : ob ci r), Wp d y pc L (.ref r :: st) (E T σ) Q = Wp d y nx L (.long (i64 (σ tag r 0)) :: st) (E T σ) Q
theorem o_gJ {ci tag : Nat} {y : vmM} {pc nx c : Nat} (ht : vmTab y pc = some (15, nx, 0, ci, c, [])) (hg : (FD ci)[c]? = some (1, tag)) : P_gJ y pc nx ci tag := by
  intro d r L st T σ Q h
  exact E_gf ht h hg
abbrev P_gX (y : vmM) (pc nx : Nat) (ci tag : Nat) : Prop := ∀ (d : Nat) (r : Nat) (L st : List Value) (T : Tt) (σ : St) (Q : vmO → vmH → Prop) (_ : ob ci r), Wp d y pc L (.ref r :: st) (E T σ) Q = Wp d y nx L (.ref (σ tag r 0).toNat :: st) (E T σ) Q
theorem o_gX {ci tag : Nat} {y : vmM} {pc nx c : Nat} (ht : vmTab y pc = some (15, nx, 0, ci, c, [])) (hg : (FD ci)[c]? = some (3, tag)) : P_gX y pc nx ci tag := by
  intro d r L st T σ Q h
  exact E_gf ht h hg
abbrev P_gR (y : vmM) (pc nx : Nat) (ci off : Nat) : Prop := ∀ (d : Nat) (r : Nat) (L st : List Value) (T : Tt) (σ : St) (Q : vmO → vmH → Prop) (_ : ob ci r), Wp d y pc L (.ref r :: st) (E T σ) Q = Wp d y nx L (.ref (r + off) :: st) (E T σ) Q
theorem o_gR {ci off : Nat} {y : vmM} {pc nx c : Nat} (ht : vmTab y pc = some (15, nx, 0, ci, c, [])) (hg : (FD ci)[c]? = some (2, off)) : P_gR y pc nx ci off := by
  intro d r L st T σ Q h
  exact E_gf ht h hg
abbrev P_gA (y : vmM) (pc nx : Nat) (ci tag : Nat) : Prop := ∀ (d : Nat) (r : Nat) (L st : List Value) (T : Tt) (σ : St) (Q : vmO → vmH → Prop) (_ : ob ci r), Wp d y pc L (.ref r :: st) (E T σ) Q = Wp d y nx L (.ref (A tag r) :: st) (E T σ) Q
theorem o_gA {ci tag : Nat} {y : vmM} {pc nx c : Nat} (ht : vmTab y pc = some (15, nx, 0, ci, c, [])) (hg : (FD ci)[c]? = some (2, off tag)) : P_gA y pc nx ci tag := by
  intro d r L st T σ Q h
  exact E_gf ht h hg
abbrev P_pI (y : vmM) (pc nx : Nat) (ci tag : Nat) : Prop := ∀ (d : Nat) (v : Int) (r : Nat) (L st : List Value) (T : Tt) (σ : St) (Q : vmO → vmH → Prop) (_ : ob ci r), Wp d y pc L (.int (i32 v) :: .ref r :: st) (E T σ) Q = Wp d y nx L st (E T (upA σ tag r fun _ => v)) Q
theorem o_pI {ci tag : Nat} {y : vmM} {pc nx c : Nat} (ht : vmTab y pc = some (16, nx, 0, ci, c, [])) (hg : (FD ci)[c]? = some (0, tag)) (hf : vmTy ci c = .int) : P_pI y pc nx ci tag := by
  intro d v r L st T σ Q h
  exact E_pf ht h hg (fun z => by cases z) (by show Value.int (i32 (upA σ tag r (fun _ => v) tag r 0)) = _; rw [upA_s]) (by rw [hf]; exact fit_i _)
abbrev P_pZ (y : vmM) (pc nx : Nat) (ci tag : Nat) : Prop := ∀ (d : Nat) (v : Int) (r : Nat) (L st : List Value) (T : Tt) (σ : St) (Q : vmO → vmH → Prop) (_ : ob ci r) (_ : v = 0 ∨ v = 1), Wp d y pc L (.int (i32 v) :: .ref r :: st) (E T σ) Q = Wp d y nx L st (E T (upA σ tag r fun _ => v)) Q
theorem o_pZ {ci tag : Nat} {y : vmM} {pc nx c : Nat} (ht : vmTab y pc = some (16, nx, 0, ci, c, [])) (hg : (FD ci)[c]? = some (0, tag)) (hf : vmTy ci c = .boolean) : P_pZ y pc nx ci tag := by
  intro d v r L st T σ Q h hv
  exact E_pf ht h hg (fun z => by cases z) (by show Value.int (i32 (upA σ tag r (fun _ => v) tag r 0)) = _; rw [upA_s]) (by rw [hf]; exact fit_z hv)
abbrev P_pJ (y : vmM) (pc nx : Nat) (ci tag : Nat) : Prop := ∀ (d : Nat) (x : Int64) (r : Nat) (L st : List Value) (T : Tt) (σ : St) (Q : vmO → vmH → Prop) (_ : ob ci r), Wp d y pc L (.long x :: .ref r :: st) (E T σ) Q = Wp d y nx L st (E T (upA σ tag r fun _ => x.toInt)) Q
theorem o_pJ {ci tag : Nat} {y : vmM} {pc nx c : Nat} (ht : vmTab y pc = some (16, nx, 0, ci, c, [])) (hg : (FD ci)[c]? = some (1, tag)) (hf : vmTy ci c = .long) : P_pJ y pc nx ci tag := by
  intro d x r L st T σ Q h
  exact E_pf ht h hg (fun z => by cases z) (by show Value.long (i64 (upA σ tag r (fun _ => x.toInt) tag r 0)) = _; rw [upA_s, i64_toInt]) (by rw [hf]; exact fit_l _)
abbrev P_pX (y : vmM) (pc nx : Nat) (ci tag : Nat) : Prop := ∀ (d : Nat) (x : Nat) (r : Nat) (L st : List Value) (T : Tt) (σ : St) (Q : vmO → vmH → Prop) (_ : ob ci r), Wp d y pc L (.ref x :: .ref r :: st) (E T σ) Q = Wp d y nx L st (E T (upA σ tag r fun _ => (x : Int))) Q
theorem o_pX {ci tag : Nat} {y : vmM} {pc nx c : Nat} (ht : vmTab y pc = some (16, nx, 0, ci, c, [])) {ty : FieldType} (hg : (FD ci)[c]? = some (3, tag)) (hf : vmTy ci c = .array ty) : P_pX y pc nx ci tag := by
  intro d x r L st T σ Q h
  exact E_pf ht h hg (fun z => by cases z) (by show Value.ref (upA σ tag r (fun _ => (x : Int)) tag r 0).toNat = _; rw [upA_s]; rfl) (by rw [hf]; exact fit_a _)
abbrev P_iald (y : vmM) (pc nx : Nat) (ci tag n : Nat) : Prop := ∀ (d : Nat) (o : Nat) (z : Int) (L st : List Value) (T : Tt) (σ : St) (Q : vmO → vmH → Prop) (_ : ob ci o) (_ : 0 ≤ z) (_ : z < n), Wp d y pc L (.int (i32 z) :: .ref (A tag o) :: st) (E T σ) Q = Wp d y nx L (.int (i32 (σ tag o z)) :: st) (E T σ) Q
theorem o_iald {ci tag n : Nat} {y : vmM} {pc nx : Nat} (ht : vmTab y pc = some (18, nx, 0, 0, 0, [])) (hs : ∀ o, ob ci o → sh (A tag o) = (0, 0, n, tag, o)) (hn : n < 2147483648) : P_iald y pc nx ci tag n := by
  intro d o z L st T σ Q ho h0 h1
  refine wp_step ht (fun z => by cases z) (fun z => by cases z) (fun z => by cases z) ?_
  show vmO18 nx 0 L (.int (i32 z) :: .ref (A tag o) :: st) (E T σ) = _
  unfold vmO18
  dsimp only
  rw [E_at (s := (0, 0, n, tag, o)) (hs o ho) (fun z => by cases z)]
  have hc := i32_cl h0 (by omega : z < 2147483648)
  have hv : vmLd 0 (.inl (0, n, .inl fun i => i32 (σ tag o i))) (i32 z) = some (.int (i32 (σ tag o z))) := by
    show (if vmIn (i32 z) n = true then _ else none) = _
    rw [if_pos (i32_in h0 h1 hn)]
    dsimp only
    rw [hc]
  show (match vmLd 0 _ (i32 z) with
    | some v => some (nx, L, v :: st, E T σ)
    | none => none) = _
  rw [hv]
abbrev P_lald (y : vmM) (pc nx : Nat) (ci tag n : Nat) : Prop := ∀ (d : Nat) (o : Nat) (z : Int) (L st : List Value) (T : Tt) (σ : St) (Q : vmO → vmH → Prop) (_ : ob ci o) (_ : 0 ≤ z) (_ : z < n), Wp d y pc L (.int (i32 z) :: .ref (A tag o) :: st) (E T σ) Q = Wp d y nx L (.long (i64 (σ tag o z)) :: st) (E T σ) Q
theorem o_lald {ci tag n : Nat} {y : vmM} {pc nx : Nat} (ht : vmTab y pc = some (18, nx, 0, 0, 1, [])) (hs : ∀ o, ob ci o → sh (A tag o) = (0, 1, n, tag, o)) (hn : n < 2147483648) : P_lald y pc nx ci tag n := by
  intro d o z L st T σ Q ho h0 h1
  refine wp_step ht (fun z => by cases z) (fun z => by cases z) (fun z => by cases z) ?_
  show vmO18 nx 1 L (.int (i32 z) :: .ref (A tag o) :: st) (E T σ) = _
  unfold vmO18
  dsimp only
  rw [E_at (s := (0, 1, n, tag, o)) (hs o ho) (fun z => by cases z)]
  have hc := i32_cl h0 (by omega : z < 2147483648)
  have hv : vmLd 1 (.inl (1, n, .inr (.inl fun i => i64 (σ tag o i)))) (i32 z) = some (.long (i64 (σ tag o z))) := by
    show (if vmIn (i32 z) n = true then _ else none) = _
    rw [if_pos (i32_in h0 h1 hn)]
    dsimp only
    rw [hc]
  show (match vmLd 1 _ (i32 z) with
    | some v => some (nx, L, v :: st, E T σ)
    | none => none) = _
  rw [hv]
abbrev P_bald (y : vmM) (pc nx : Nat) (ci tag n : Nat) : Prop := ∀ (d : Nat) (o : Nat) (z : Int) (L st : List Value) (T : Tt) (σ : St) (Q : vmO → vmH → Prop) (_ : ob ci o) (_ : 0 ≤ z) (_ : z < n), Wp d y pc L (.int (i32 z) :: .ref (A tag o) :: st) (E T σ) Q = Wp d y nx L (.int (i32 (σ tag o z)) :: st) (E T σ) Q
theorem o_bald {ci tag n : Nat} {y : vmM} {pc nx : Nat} (ht : vmTab y pc = some (18, nx, 0, 0, 2, [])) (hs : ∀ o, ob ci o → sh (A tag o) = (0, 2, n, tag, o)) (hn : n < 2147483648) : P_bald y pc nx ci tag n := by
  intro d o z L st T σ Q ho h0 h1
  refine wp_step ht (fun z => by cases z) (fun z => by cases z) (fun z => by cases z) ?_
  show vmO18 nx 2 L (.int (i32 z) :: .ref (A tag o) :: st) (E T σ) = _
  unfold vmO18
  dsimp only
  rw [E_at (s := (0, 2, n, tag, o)) (hs o ho) (fun z => by cases z)]
  have hc := i32_cl h0 (by omega : z < 2147483648)
  have hv : vmLd 2 (.inl (2, n, .inl fun i => i32 (σ tag o i))) (i32 z) = some (.int (i32 (σ tag o z))) := by
    show (if vmIn (i32 z) n = true then _ else none) = _
    rw [if_pos (i32_in h0 h1 hn)]
    dsimp only
    rw [hc]
  show (match vmLd 2 _ (i32 z) with
    | some v => some (nx, L, v :: st, E T σ)
    | none => none) = _
  rw [hv]
abbrev P_aald (y : vmM) (pc nx : Nat) (ci tag n base step : Nat) : Prop := ∀ (d : Nat) (o : Nat) (z : Int) (L st : List Value) (T : Tt) (σ : St) (Q : vmO → vmH → Prop) (_ : ob ci o) (_ : 0 ≤ z) (_ : z < n), Wp d y pc L (.int (i32 z) :: .ref (A tag o) :: st) (E T σ) Q = Wp d y nx L (.ref (o + base + step * z.toNat) :: st) (E T σ) Q
theorem o_aald {ci tag n base step : Nat} {y : vmM} {pc nx : Nat} (ht : vmTab y pc = some (18, nx, 0, 0, 3, [])) {ty : Nat} (hs : ∀ o, ob ci o → sh (A tag o) = (1, ty, n, o + base, step)) (hn : n < 2147483648) (ht3 : ty = 3 ∨ ty = 4) : P_aald y pc nx ci tag n base step := by
  intro d o z L st T σ Q ho h0 h1
  refine wp_step ht (fun z => by cases z) (fun z => by cases z) (fun z => by cases z) ?_
  show vmO18 nx 3 L (.int (i32 z) :: .ref (A tag o) :: st) (E T σ) = _
  unfold vmO18
  dsimp only
  rw [E_at (s := (1, ty, n, o + base, step)) (hs o ho) (fun z => by cases z)]
  have hc := i32_cl h0 (by omega : z < 2147483648)
  have hz : (i32 z).toNatClampNeg = z.toNat := by omega
  have hv : vmLd 3 (.inl (ty, n, .inr (.inr (.inr (.inr fun i => if i < n then some (o + base + step * i) else none))))) (i32 z) = some (.ref (o + base + step * z.toNat)) := by
    rcases ht3 with rfl | rfl
    · show (if vmIn (i32 z) n = true then _ else none) = _
      rw [if_pos (i32_in h0 h1 hn), hz]; dsimp only; rw [if_pos (by omega : z.toNat < n)]; rfl
    · show (if vmIn (i32 z) n = true then _ else none) = _
      rw [if_pos (i32_in h0 h1 hn), hz]; dsimp only; rw [if_pos (by omega : z.toNat < n)]; rfl
  show (match vmLd 3 _ (i32 z) with
    | some v => some (nx, L, v :: st, E T σ)
    | none => none) = _
  rw [hv]
abbrev P_iast (y : vmM) (pc nx : Nat) (ci tag n : Nat) : Prop := ∀ (d : Nat) (o : Nat) (z : Int) (v : Int) (L st : List Value) (T : Tt) (σ : St) (Q : vmO → vmH → Prop) (_ : ob ci o) (_ : 0 ≤ z) (_ : z < n), Wp d y pc L (.int (i32 v) :: .int (i32 z) :: .ref (A tag o) :: st) (E T σ) Q = Wp d y nx L st (E T (upA σ tag o (fu (σ tag o) z (v)))) Q
theorem o_iast {ci tag n : Nat} {y : vmM} {pc nx : Nat} (ht : vmTab y pc = some (19, nx, 0, 0, 0, [])) (hs : ∀ o, ob ci o → sh (A tag o) = (0, 0, n, tag, o)) (hn : n < 2147483648) : P_iast y pc nx ci tag n := by
  intro d o z v L st T σ Q ho h0 h1
  refine wp_step ht (fun z => by cases z) (fun z => by cases z) (fun z => by cases z) ?_
  show vmO19 nx 0 L (.int (i32 v) :: .int (i32 z) :: .ref (A tag o) :: st) (E T σ) = _
  unfold vmO19
  dsimp only
  have hsz := hs o ho
  have hlt : A tag o < 406 := sh_lt (by rw [hsz]; show (0 : Nat) ≠ 9; decide)
  rw [if_pos (show vmOwn (A tag o) = true from (Nat.blt_eq).mpr (by omega)), E_at (s := (0, 0, n, tag, o)) hsz (fun z => by cases z)]
  have hv : vmSt 0 (.inl (0, n, .inl fun i : Nat => i32 (σ tag o i))) (i32 z) (.int (i32 v)) = some (.inl (0, n, .inl (upd (fun i : Nat => i32 (σ tag o i)) (i32 z).toNatClampNeg (i32 v)))) := by
    show (if vmIn (i32 z) n = true then _ else none) = _
    rw [if_pos (i32_in h0 h1 hn)]
  show (match vmSt 0 _ (i32 z) (.int (i32 v)) with
    | some c => some (nx, L, st, vmSet (E T σ) (A tag o) c)
    | none => none) = _
  rw [hv]
  dsimp only
  rw [E_setA (f := fu (σ tag o) z (v)) hsz]
  show some (Sum.inl (_, n, _)) = _
  rw [upA_s]
  have hfn : upd (fun i : Nat => i32 (σ tag o i)) (i32 z).toNatClampNeg (i32 v) = fun i : Nat => i32 (fu (σ tag o) z v i) := by
    funext i
    rw [← va_up_i h0 (by omega)]
  rw [hfn]
abbrev P_last (y : vmM) (pc nx : Nat) (ci tag n : Nat) : Prop := ∀ (d : Nat) (o : Nat) (z : Int) (v : Int64) (L st : List Value) (T : Tt) (σ : St) (Q : vmO → vmH → Prop) (_ : ob ci o) (_ : 0 ≤ z) (_ : z < n), Wp d y pc L (.long v :: .int (i32 z) :: .ref (A tag o) :: st) (E T σ) Q = Wp d y nx L st (E T (upA σ tag o (fu (σ tag o) z (v.toInt)))) Q
theorem o_last {ci tag n : Nat} {y : vmM} {pc nx : Nat} (ht : vmTab y pc = some (19, nx, 0, 0, 1, [])) (hs : ∀ o, ob ci o → sh (A tag o) = (0, 1, n, tag, o)) (hn : n < 2147483648) : P_last y pc nx ci tag n := by
  intro d o z v L st T σ Q ho h0 h1
  refine wp_step ht (fun z => by cases z) (fun z => by cases z) (fun z => by cases z) ?_
  show vmO19 nx 1 L (.long v :: .int (i32 z) :: .ref (A tag o) :: st) (E T σ) = _
  unfold vmO19
  dsimp only
  have hsz := hs o ho
  have hlt : A tag o < 406 := sh_lt (by rw [hsz]; show (0 : Nat) ≠ 9; decide)
  rw [if_pos (show vmOwn (A tag o) = true from (Nat.blt_eq).mpr (by omega)), E_at (s := (0, 1, n, tag, o)) hsz (fun z => by cases z)]
  have hv : vmSt 1 (.inl (1, n, .inr (.inl fun i : Nat => i64 (σ tag o i)))) (i32 z) (.long v) = some (.inl (1, n, .inr (.inl (va_up (fun i : Nat => i64 (σ tag o i)) (i32 z).toNatClampNeg v)))) := by
    show (if vmIn (i32 z) n = true then _ else none) = _
    rw [if_pos (i32_in h0 h1 hn)]
  show (match vmSt 1 _ (i32 z) (.long v) with
    | some c => some (nx, L, st, vmSet (E T σ) (A tag o) c)
    | none => none) = _
  rw [hv]
  dsimp only
  rw [E_setA (f := fu (σ tag o) z (v.toInt)) hsz]
  show some (Sum.inl (_, n, _)) = _
  rw [upA_s]
  have hfn : va_up (fun i : Nat => i64 (σ tag o i)) (i32 z).toNatClampNeg v = fun i : Nat => i64 (fu (σ tag o) z v.toInt i) := by
    funext i
    rw [← va_up_l h0 (by omega), i64_toInt]
  rw [hfn]
abbrev P_bast (y : vmM) (pc nx : Nat) (ci tag n : Nat) : Prop := ∀ (d : Nat) (o : Nat) (z : Int) (v : Int) (L st : List Value) (T : Tt) (σ : St) (Q : vmO → vmH → Prop) (_ : ob ci o) (_ : 0 ≤ z) (_ : z < n) (_ : v = 0 ∨ v = 1), Wp d y pc L (.int (i32 v) :: .int (i32 z) :: .ref (A tag o) :: st) (E T σ) Q = Wp d y nx L st (E T (upA σ tag o (fu (σ tag o) z (v)))) Q
theorem o_bast {ci tag n : Nat} {y : vmM} {pc nx : Nat} (ht : vmTab y pc = some (19, nx, 0, 0, 2, [])) (hs : ∀ o, ob ci o → sh (A tag o) = (0, 2, n, tag, o)) (hn : n < 2147483648) : P_bast y pc nx ci tag n := by
  intro d o z v L st T σ Q ho h0 h1 hb
  refine wp_step ht (fun z => by cases z) (fun z => by cases z) (fun z => by cases z) ?_
  show vmO19 nx 2 L (.int (i32 v) :: .int (i32 z) :: .ref (A tag o) :: st) (E T σ) = _
  unfold vmO19
  dsimp only
  have hsz := hs o ho
  have hlt : A tag o < 406 := sh_lt (by rw [hsz]; show (0 : Nat) ≠ 9; decide)
  rw [if_pos (show vmOwn (A tag o) = true from (Nat.blt_eq).mpr (by omega)), E_at (s := (0, 2, n, tag, o)) hsz (fun z => by cases z)]
  have hv : vmSt 2 (.inl (2, n, .inl fun i : Nat => i32 (σ tag o i))) (i32 z) (.int (i32 v)) = some (.inl (2, n, .inl (upd (fun i : Nat => i32 (σ tag o i)) (i32 z).toNatClampNeg (i32 v)))) := by
    show (if vmIn (i32 z) n = true then _ else none) = _
    rw [if_pos (i32_in h0 h1 hn)]
    rw [if_pos (show i32 v = 0 ∨ i32 v = 1 by rcases hb with rfl | rfl; exact Or.inl rfl; exact Or.inr rfl)]
  show (match vmSt 2 _ (i32 z) (.int (i32 v)) with
    | some c => some (nx, L, st, vmSet (E T σ) (A tag o) c)
    | none => none) = _
  rw [hv]
  dsimp only
  rw [E_setA (f := fu (σ tag o) z (v)) hsz]
  show some (Sum.inl (_, n, _)) = _
  rw [upA_s]
  have hfn : upd (fun i : Nat => i32 (σ tag o i)) (i32 z).toNatClampNeg (i32 v) = fun i : Nat => i32 (fu (σ tag o) z v i) := by
    funext i
    rw [← va_up_i h0 (by omega)]
  rw [hfn]
abbrev P_alen (y : vmM) (pc nx : Nat) (ci tag n : Nat) : Prop := ∀ (d : Nat) (o : Nat) (L st : List Value) (T : Tt) (σ : St) (Q : vmO → vmH → Prop) (_ : ob ci o), Wp d y pc L (.ref (A tag o) :: st) (E T σ) Q = Wp d y nx L (.int (i32 n) :: st) (E T σ) Q
theorem o_alen {ci tag n : Nat} {y : vmM} {pc nx : Nat} (ht : vmTab y pc = some (17, nx, 0, 0, 0, [])) {ty : Nat} (hs : ∀ o, ob ci o → sh (A tag o) = (0, ty, n, tag, o)) : P_alen y pc nx ci tag n := by
  intro d o L st T σ Q ho
  refine wp_step ht (fun z => by cases z) (fun z => by cases z) (fun z => by cases z) ?_
  show vmO17 nx L (.ref (A tag o) :: st) (E T σ) = _
  unfold vmO17
  dsimp only
  rw [E_at (s := (0, ty, n, tag, o)) (hs o ho) (fun z => by cases z)]
  have hv : ∃ c, ce σ (A tag o) (0, ty, n, tag, o) = some c ∧ vmLen c = some (i32 n) := by
    simp only [ce]
    split
    · refine ⟨_, rfl, ?_⟩; show some (Int32.ofNat n) = some (Int32.ofInt n); rw [Int32.ofInt_eq_ofNat]
    · refine ⟨_, rfl, ?_⟩; show some (Int32.ofNat n) = some (Int32.ofInt n); rw [Int32.ofInt_eq_ofNat]
  obtain ⟨c, hc1, hc2⟩ := hv
  rw [hc1]
  dsimp only
  rw [hc2]
def cp (f g : Int → Int) (n : Int) : Int → Int := fun j => if 0 ≤ j ∧ j < n then f j else g j
abbrev P_cpy (y : vmM) (pc nx : Nat) (c0 t0 n0 c1 t1 n1 : Nat) : Prop := ∀ (d o0 o1 : Nat) (z : Int) (L st : List Value) (T : Tt) (σ : St) (Q : vmO → vmH → Prop) (_ : ob c0 o0) (_ : ob c1 o1) (_ : 0 ≤ z) (_ : z ≤ n0) (_ : z ≤ n1) (_ : vmCat st ≤ 8), Wp d y pc L (.int (i32 z) :: .int (i32 0) :: .ref (A t1 o1) :: .int (i32 0) :: .ref (A t0 o0) :: st) (E T σ) Q = Wp d y nx L st (E T (upA σ t1 o1 (cp (σ t0 o0) (σ t1 o1) z))) Q
theorem o_cpy {c0 t0 n0 c1 t1 n1 : Nat} {y : vmM} {pc nx : Nat} (ht : vmTab y pc = some (27, nx, 0, 0, 0, [])) (hs0 : ∀ o, ob c0 o → sh (A t0 o) = (0, 0, n0, t0, o)) (hs1 : ∀ o, ob c1 o → sh (A t1 o) = (0, 0, n1, t1, o)) (hn0 : n0 < 2147483648) (hn1 : n1 < 2147483648) : P_cpy y pc nx c0 t0 n0 c1 t1 n1 := by
  intro d o0 o1 z L st T σ Q h0 h1 z0 z1 z2 hc
  refine wp_step ht (fun z => by cases z) (fun z => by cases z) (fun z => by cases z) ?_
  show vmO27 nx L (.int (i32 z) :: .int (i32 0) :: .ref (A t1 o1) :: .int (i32 0) :: .ref (A t0 o0) :: st) (E T σ) = _
  unfold vmO27
  dsimp only
  have e0 := hs0 o0 h0
  have e1 := hs1 o1 h1
  have l0 : A t0 o0 < 406 := sh_lt (by rw [e0]; show (0 : Nat) ≠ 9; decide)
  have l1 : A t1 o1 < 406 := sh_lt (by rw [e1]; show (0 : Nat) ≠ 9; decide)
  rw [if_pos ⟨(Nat.blt_eq).mpr (by omega), (Nat.blt_eq).mpr (by omega), hc⟩, E_at (s := (0, 0, n0, t0, o0)) e0 (fun z => by cases z), E_at (s := (0, 0, n1, t1, o1)) e1 (fun z => by cases z)]
  have hz := i32_cl z0 (by omega : z < 2147483648)
  have hz0 : (i32 0).toNatClampNeg = 0 := by decide
  have hzn : ¬ i32 z < 0 := by
    intro h
    have := (i32_ge (u := z) (v := 0) (by omega) (by omega) (by omega) (by omega)).2.1.mp h
    omega
  have hv : vmCopy (.inl (0, n0, .inl fun i : Nat => i32 (σ t0 o0 i))) (.inl (0, n1, .inl fun i : Nat => i32 (σ t1 o1 i))) (i32 0) (i32 0) (i32 z) = some (.inl (0, n1, .inl (va_cpy (fun i : Nat => i32 (σ t0 o0 i)) (fun i : Nat => i32 (σ t1 o1 i)) 0 0 (i32 z).toNatClampNeg))) := by
    show (if _ then _ else none) = _
    rw [if_pos ⟨by decide, by decide, hzn, by rw [hz0]; omega, by rw [hz0]; omega⟩, hz0]
  show (match vmCopy _ _ (i32 0) (i32 0) (i32 z) with
    | some c => some (nx, L, st, vmSet (E T σ) (A t1 o1) c)
    | none => none) = _
  rw [hv]
  dsimp only
  rw [E_setA (f := cp (σ t0 o0) (σ t1 o1) z) e1]
  show some (Sum.inl (_, n1, _)) = _
  rw [upA_s]
  have hfn : va_cpy (fun i : Nat => i32 (σ t0 o0 i)) (fun i : Nat => i32 (σ t1 o1 i)) 0 0 (i32 z).toNatClampNeg = fun i : Nat => i32 (cp (σ t0 o0) (σ t1 o1) z i) := by
    funext i
    unfold va_cpy cp
    by_cases h : (i : Int) < z
    · rw [if_pos (by omega), if_pos (by omega)]
      simp
    · rw [if_neg (by omega), if_neg (by omega)]
  rw [hfn]
/-! calls, ends -/
abbrev P_ca0 (y : vmM) (pc nx : Nat) (k : Int) (b : Nat) : Prop := ∀ (d : Nat) (L st : List Value) (h : vmH) (Q : vmO → vmH → Prop) (_ : vmCat st ≤ 8), Wp (d + 1) y pc L (st) h Q = Ca d k b [] h (Ko d y nx pc L st Q)
theorem o_ca0 {k : Int} {b : Nat} {y : vmM} {pc nx : Nat} (ht : vmTab y pc = some (21, nx, k, b, 0, [])) : P_ca0 y pc nx k b := by
  intro d L st h Q hc
  exact wp_call ht rfl rfl hc
abbrev P_ca1 (y : vmM) (pc nx : Nat) (k : Int) (b : Nat) : Prop := ∀ (d : Nat) (v0 : Value) (L st : List Value) (h : vmH) (Q : vmO → vmH → Prop) (_ : vmCat st ≤ 8), Wp (d + 1) y pc L (v0 :: st) h Q = Ca d k b [v0] h (Ko d y nx pc L st Q)
theorem o_ca1 {k : Int} {b : Nat} {y : vmM} {pc nx : Nat} (ht : vmTab y pc = some (21, nx, k, b, 1, [])) : P_ca1 y pc nx k b := by
  intro d v0 L st h Q hc
  exact wp_call ht rfl rfl hc
abbrev P_ca2 (y : vmM) (pc nx : Nat) (k : Int) (b : Nat) : Prop := ∀ (d : Nat) (v0 v1 : Value) (L st : List Value) (h : vmH) (Q : vmO → vmH → Prop) (_ : vmCat st ≤ 8), Wp (d + 1) y pc L (v1 :: v0 :: st) h Q = Ca d k b [v0, v1] h (Ko d y nx pc L st Q)
theorem o_ca2 {k : Int} {b : Nat} {y : vmM} {pc nx : Nat} (ht : vmTab y pc = some (21, nx, k, b, 2, [])) : P_ca2 y pc nx k b := by
  intro d v0 v1 L st h Q hc
  exact wp_call ht rfl rfl hc
abbrev P_ca3 (y : vmM) (pc nx : Nat) (k : Int) (b : Nat) : Prop := ∀ (d : Nat) (v0 v1 v2 : Value) (L st : List Value) (h : vmH) (Q : vmO → vmH → Prop) (_ : vmCat st ≤ 8), Wp (d + 1) y pc L (v2 :: v1 :: v0 :: st) h Q = Ca d k b [v0, v1, v2] h (Ko d y nx pc L st Q)
theorem o_ca3 {k : Int} {b : Nat} {y : vmM} {pc nx : Nat} (ht : vmTab y pc = some (21, nx, k, b, 3, [])) : P_ca3 y pc nx k b := by
  intro d v0 v1 v2 L st h Q hc
  exact wp_call ht rfl rfl hc
abbrev P_ca4 (y : vmM) (pc nx : Nat) (k : Int) (b : Nat) : Prop := ∀ (d : Nat) (v0 v1 v2 v3 : Value) (L st : List Value) (h : vmH) (Q : vmO → vmH → Prop) (_ : vmCat st ≤ 8), Wp (d + 1) y pc L (v3 :: v2 :: v1 :: v0 :: st) h Q = Ca d k b [v0, v1, v2, v3] h (Ko d y nx pc L st Q)
theorem o_ca4 {k : Int} {b : Nat} {y : vmM} {pc nx : Nat} (ht : vmTab y pc = some (21, nx, k, b, 4, [])) : P_ca4 y pc nx k b := by
  intro d v0 v1 v2 v3 L st h Q hc
  exact wp_call ht rfl rfl hc
abbrev P_ca5 (y : vmM) (pc nx : Nat) (k : Int) (b : Nat) : Prop := ∀ (d : Nat) (v0 v1 v2 v3 v4 : Value) (L st : List Value) (h : vmH) (Q : vmO → vmH → Prop) (_ : vmCat st ≤ 8), Wp (d + 1) y pc L (v4 :: v3 :: v2 :: v1 :: v0 :: st) h Q = Ca d k b [v0, v1, v2, v3, v4] h (Ko d y nx pc L st Q)
theorem o_ca5 {k : Int} {b : Nat} {y : vmM} {pc nx : Nat} (ht : vmTab y pc = some (21, nx, k, b, 5, [])) : P_ca5 y pc nx k b := by
  intro d v0 v1 v2 v3 v4 L st h Q hc
  exact wp_call ht rfl rfl hc
abbrev P_ca6 (y : vmM) (pc nx : Nat) (k : Int) (b : Nat) : Prop := ∀ (d : Nat) (v0 v1 v2 v3 v4 v5 : Value) (L st : List Value) (h : vmH) (Q : vmO → vmH → Prop) (_ : vmCat st ≤ 8), Wp (d + 1) y pc L (v5 :: v4 :: v3 :: v2 :: v1 :: v0 :: st) h Q = Ca d k b [v0, v1, v2, v3, v4, v5] h (Ko d y nx pc L st Q)
theorem o_ca6 {k : Int} {b : Nat} {y : vmM} {pc nx : Nat} (ht : vmTab y pc = some (21, nx, k, b, 6, [])) : P_ca6 y pc nx k b := by
  intro d v0 v1 v2 v3 v4 v5 L st h Q hc
  exact wp_call ht rfl rfl hc
abbrev P_rv (y : vmM) (pc : Nat) : Prop := ∀ (d : Nat) (L : List Value) (h : vmH) (Q : vmO → vmH → Prop), Wp d y pc L [] h Q = Q (.inl none) h
theorem o_rv {y : vmM} {pc nx : Nat} (ht : vmTab y pc = some (22, nx, 0, 0, 0, [])) (hy : y.2.2.2.1 = none) : P_rv y pc := by
  intro d L h Q
  refine wp_ret ht rfl ?_
  show (if y.2.2.2.1 = none then _ else none) = _
  rw [if_pos hy]
abbrev P_ri (y : vmM) (pc : Nat) : Prop := ∀ (d : Nat) (u : Int) (L : List Value) (h : vmH) (Q : vmO → vmH → Prop), Wp d y pc L [.int (i32 u)] h Q = Q (.inl (some (.int (i32 u)))) h
theorem o_ri {y : vmM} {pc nx : Nat} (ht : vmTab y pc = some (22, nx, 0, 0, 1, [])) (hy : y.2.2.2.1 = some .int) : P_ri y pc := by
  intro d u L h Q
  refine wp_ret ht rfl ?_
  show (match y.2.2.2.1 with
    | some ty => if narrow ty (Value.int (i32 u)) = Value.int (i32 u) then some ((.inl (some (Value.int (i32 u))) : vmO), h) else none
    | none => none) = _
  rw [hy]
  dsimp only
  rw [if_pos (show narrow FieldType.int (Value.int (i32 u)) = Value.int (i32 u) from rfl)]
abbrev P_rz (y : vmM) (pc : Nat) : Prop := ∀ (d : Nat) (u : Int) (L : List Value) (h : vmH) (Q : vmO → vmH → Prop) (_ : u = 0 ∨ u = 1), Wp d y pc L [.int (i32 u)] h Q = Q (.inl (some (.int (i32 u)))) h
theorem o_rz {y : vmM} {pc nx : Nat} (ht : vmTab y pc = some (22, nx, 0, 0, 1, [])) (hy : y.2.2.2.1 = some .boolean) : P_rz y pc := by
  intro d u L h Q hu
  refine wp_ret ht rfl ?_
  show (match y.2.2.2.1 with
    | some ty => if narrow ty (Value.int (i32 u)) = Value.int (i32 u) then some ((.inl (some (Value.int (i32 u))) : vmO), h) else none
    | none => none) = _
  rw [hy]
  dsimp only
  rw [if_pos (by rcases hu with rfl | rfl <;> decide)]
abbrev P_rh (y : vmM) (pc : Nat) : Prop := ∀ (d : Nat) (u : Int) (L : List Value) (h : vmH) (Q : vmO → vmH → Prop) (_ : 0 ≤ u) (_ : u < 65536), Wp d y pc L [.int (i32 u)] h Q = Q (.inl (some (.int (i32 u)))) h
theorem o_rc2 {y : vmM} {pc nx : Nat} (ht : vmTab y pc = some (22, nx, 0, 0, 1, [])) (hy : y.2.2.2.1 = some .char) : P_rh y pc := by
  intro d u L h Q h0 h1
  refine wp_ret ht rfl ?_
  show (match y.2.2.2.1 with
    | some ty => if narrow ty (Value.int (i32 u)) = Value.int (i32 u) then some ((.inl (some (Value.int (i32 u))) : vmO), h) else none
    | none => none) = _
  rw [hy]
  dsimp only
  rw [if_pos (by show Value.int ((i32 u).toUInt32 % 65536).toInt32 = _; rw [i32_c h0 h1])]
abbrev P_rl (y : vmM) (pc : Nat) : Prop := ∀ (d : Nat) (x : Int64) (L : List Value) (h : vmH) (Q : vmO → vmH → Prop), Wp d y pc L [.long x] h Q = Q (.inl (some (.long x))) h
theorem o_rl {y : vmM} {pc nx : Nat} (ht : vmTab y pc = some (22, nx, 0, 0, 2, [])) (hy : y.2.2.2.1 = some .long) : P_rl y pc := by
  intro d x L h Q
  refine wp_ret ht rfl ?_
  show (if y.2.2.2.1 = some .long then _ else none) = _
  rw [if_pos hy]
abbrev P_th (y : vmM) (pc x : Nat) : Prop := ∀ (d : Nat) (L st : List Value) (T : Tt) (σ : St) (Q : vmO → vmH → Prop) (_ : 8 ≤ d) (_ : vmCat st ≤ 8), Wp d y pc L st (E T σ) Q = Q (.inr x) (E (thr T) σ)
theorem o_th {y : vmM} {pc nx x : Nat} (ht : vmTab y pc = some (23, nx, 0, x, 0, [])) (hy : y.2.2.2.2.2.2 = []) : P_th y pc x := by
  intro d L st T σ Q hd hc
  exact wp_throw ht rfl ⟨hd, hc, hy⟩
abbrev P_mx (y : vmM) (pc nx : Nat) : Prop := ∀ (d : Nat) (u v : Int) (L st : List Value) (h : vmH) (Q : vmO → vmH → Prop) (_ : -2147483648 ≤ u) (_ : u < 2147483648) (_ : -2147483648 ≤ v) (_ : v < 2147483648) (_ : vmCat st ≤ 8), Wp d y pc L (.int (i32 v) :: .int (i32 u) :: st) h Q = Wp d y nx L (.int (i32 (max u v)) :: st) h Q
theorem o_mx {y : vmM} {pc nx : Nat} (ht : vmTab y pc = some (29, nx, 0, 0, 0, [])) : P_mx y pc nx := by
  intro d u v L st h Q a0 a1 b0 b1 hc
  refine wp_step ht (fun z => by cases z) (fun z => by cases z) (fun z => by cases z) ?_
  show (if vmCat st ≤ 8 then some (nx, L, Value.int (if i32 u < i32 v then i32 v else i32 u) :: st, h) else none) = _
  rw [if_pos hc]
  rcases Classical.em (u < v) with hx | hx
  · rw [if_pos ((i32_ge a0 a1 b0 b1).2.1.mpr hx), show max u v = v by omega]
  · rw [if_neg (fun z => hx ((i32_ge a0 a1 b0 b1).2.1.mp z)), show max u v = u by omega]
abbrev P_mn (y : vmM) (pc nx : Nat) : Prop := ∀ (d : Nat) (u v : Int) (L st : List Value) (h : vmH) (Q : vmO → vmH → Prop) (_ : -2147483648 ≤ u) (_ : u < 2147483648) (_ : -2147483648 ≤ v) (_ : v < 2147483648) (_ : vmCat st ≤ 8), Wp d y pc L (.int (i32 v) :: .int (i32 u) :: st) h Q = Wp d y nx L (.int (i32 (min u v)) :: st) h Q
theorem o_mn {y : vmM} {pc nx : Nat} (ht : vmTab y pc = some (29, nx, 0, 0, 1, [])) : P_mn y pc nx := by
  intro d u v L st h Q a0 a1 b0 b1 hc
  refine wp_step ht (fun z => by cases z) (fun z => by cases z) (fun z => by cases z) ?_
  show (if vmCat st ≤ 8 then some (nx, L, Value.int (if i32 v < i32 u then i32 v else i32 u) :: st, h) else none) = _
  rw [if_pos hc]
  rcases Classical.em (v < u) with hx | hx
  · rw [if_pos ((i32_ge b0 b1 a0 a1).2.1.mpr hx), show min u v = v by omega]
  · rw [if_neg (fun z => hx ((i32_ge b0 b1 a0 a1).2.1.mp z)), show min u v = u by omega]
abbrev P_lmx (y : vmM) (pc nx : Nat) : Prop := ∀ (d : Nat) (x z : Int64) (L st : List Value) (h : vmH) (Q : vmO → vmH → Prop) (_ : vmCat st ≤ 8), Wp d y pc L (.long z :: .long x :: st) h Q = Wp d y nx L (.long (if x < z then z else x) :: st) h Q
theorem o_lmx {y : vmM} {pc nx : Nat} (ht : vmTab y pc = some (29, nx, 0, 0, 2, [])) : P_lmx y pc nx := by
  intro d x z L st h Q hc
  refine wp_step ht (fun z => by cases z) (fun z => by cases z) (fun z => by cases z) ?_
  show (if vmCat st ≤ 8 then some (nx, L, Value.long (if x < z then z else x) :: st, h) else none) = _
  rw [if_pos hc]
abbrev P_lmn (y : vmM) (pc nx : Nat) : Prop := ∀ (d : Nat) (x z : Int64) (L st : List Value) (h : vmH) (Q : vmO → vmH → Prop) (_ : vmCat st ≤ 8), Wp d y pc L (.long z :: .long x :: st) h Q = Wp d y nx L (.long (if z < x then z else x) :: st) h Q
theorem o_lmn {y : vmM} {pc nx : Nat} (ht : vmTab y pc = some (29, nx, 0, 0, 3, [])) : P_lmn y pc nx := by
  intro d x z L st h Q hc
  refine wp_step ht (fun z => by cases z) (fun z => by cases z) (fun z => by cases z) ?_
  show (if vmCat st ≤ 8 then some (nx, L, Value.long (if z < x then z else x) :: st, h) else none) = _
  rw [if_pos hc]
abbrev P_fm (y : vmM) (pc nx : Nat) : Prop := ∀ (d : Nat) (u v : Int) (L st : List Value) (h : vmH) (Q : vmO → vmH → Prop) (_ : -1000 ≤ u) (_ : u < 1000) (_ : 0 < v) (_ : v < 1000) (_ : vmCat st ≤ 8), Wp d y pc L (.int (i32 v) :: .int (i32 u) :: st) h Q = Wp d y nx L (.int (i32 (u % v)) :: st) h Q
theorem fm_eq {u v : Int} (a0 : -1000 ≤ u) (a1 : u < 1000) (b0 : 0 < v) (b1 : v < 1000) : (if (i32 u % i32 v ^^^ i32 v) < 0 ∧ ¬ i32 u % i32 v = 0 then i32 u % i32 v + i32 v else i32 u % i32 v) = i32 (u % v) := by
  have hm : (i32 u % i32 v).toInt = u.tmod v := by rw [Int32.toInt_mod, i32_i (by omega) (by omega), i32_i (by omega) (by omega)]
  have hm2 : i32 u % i32 v = i32 (u.tmod v) := by rw [← hm, i32_toInt]
  have hb : u.tmod v < v ∧ -v < u.tmod v := ⟨by have := Int.tmod_lt_of_pos u b0; omega, by have := Int.lt_tmod_of_pos u b0; omega⟩
  have hx : ((i32 u % i32 v ^^^ i32 v) < 0) ↔ u.tmod v < 0 := by
    rw [hm2, Int32.lt_iff_toInt_lt]
    have h0 : (0 : Int32).toInt = 0 := by decide
    rw [h0]
    have hsx : ∀ x : Int32, x.toInt < 0 ↔ x.toBitVec.msb = true := fun x => by
      rw [BitVec.msb_eq_toInt, decide_eq_true_eq]; rfl
    rw [hsx]
    show ((i32 (u.tmod v)).toBitVec ^^^ (i32 v).toBitVec).msb = true ↔ _
    rw [BitVec.msb_xor]
    have hv : (i32 v).toBitVec.msb = false := by
      rw [← Bool.not_eq_true, ← hsx, i32_i (by omega) (by omega)]
      omega
    rw [hv, Bool.xor_false, ← hsx, i32_i (by omega) (by omega)]
  have hz : i32 u % i32 v = 0 ↔ u.tmod v = 0 := by
    rw [hm2]
    exact (i32_ge (u := u.tmod v) (v := 0) (by omega) (by omega) (by omega) (by omega)).1
  have he := Int.emod_nonneg u (show v ≠ 0 by omega)
  have hl := Int.emod_lt_of_pos u b0
  have hq := Int.tmod_add_mul_tdiv u v
  have hq2 := Int.emod_add_mul_ediv u v
  by_cases hneg : u.tmod v < 0
  · rw [if_pos ⟨hx.mpr hneg, fun z => by have := hz.mp z; omega⟩, hm2, i32_add]
    congr 1
    have : u % v = (u.tmod v + v) % v := by
      conv => lhs; rw [← hq]
      rw [Int.add_mul_emod_self_left, Int.add_emod_right]
    rw [this, Int.emod_eq_of_lt (by omega) (by omega)]
  · rw [if_neg (fun z => hneg (hx.mp z.1)), hm2]
    congr 1
    have : u % v = (u.tmod v) % v := by
      conv => lhs; rw [← hq]
      rw [Int.add_mul_emod_self_left]
    rw [this, Int.emod_eq_of_lt (by omega) (by omega)]
theorem o_fm {y : vmM} {pc nx : Nat} (ht : vmTab y pc = some (29, nx, 0, 0, 4, [])) : P_fm y pc nx := by
  intro d u v L st h Q a0 a1 b0 b1 hc
  refine wp_step ht (fun z => by cases z) (fun z => by cases z) (fun z => by cases z) ?_
  show (if vmCat st ≤ 8 then (match (if i32 v = 0 then none else some (if (i32 u % i32 v ^^^ i32 v) < 0 ∧ ¬ i32 u % i32 v = 0 then i32 u % i32 v + i32 v else i32 u % i32 v)) with
    | some z => some (nx, L, Value.int z :: st, h)
    | none => none) else none) = _
  rw [if_pos hc, if_neg (i32_nz b0 (by omega)), fm_eq a0 a1 b0 b1]
theorem g_iald {tag n : Nat} {y : vmM} {pc nx : Nat} (ht : vmTab y pc = some (18, nx, 0, 0, 0, [])) (hn : n < 2147483648) (d o : Nat) (z : Int) (L st : List Value) (T : Tt) (σ : St) (Q : vmO → vmH → Prop) (hso : sh (A tag o) = (0, 0, n, tag, o)) (h0 : 0 ≤ z) (h1 : z < n) : Wp d y pc L (.int (i32 z) :: .ref (A tag o) :: st) (E T σ) Q = Wp d y nx L (.int (i32 (σ tag o z)) :: st) (E T σ) Q := by
  refine wp_step ht (fun z => by cases z) (fun z => by cases z) (fun z => by cases z) ?_
  show vmO18 nx 0 L (.int (i32 z) :: .ref (A tag o) :: st) (E T σ) = _
  unfold vmO18
  dsimp only
  rw [E_at (s := (0, 0, n, tag, o)) (hso) (fun z => by cases z)]
  have hc := i32_cl h0 (by omega : z < 2147483648)
  have hv : vmLd 0 (.inl (0, n, .inl fun i => i32 (σ tag o i))) (i32 z) = some (.int (i32 (σ tag o z))) := by
    show (if vmIn (i32 z) n = true then _ else none) = _
    rw [if_pos (i32_in h0 h1 hn)]
    dsimp only
    rw [hc]
  show (match vmLd 0 _ (i32 z) with
    | some v => some (nx, L, v :: st, E T σ)
    | none => none) = _
  rw [hv]
theorem g_lald {tag n : Nat} {y : vmM} {pc nx : Nat} (ht : vmTab y pc = some (18, nx, 0, 0, 1, [])) (hn : n < 2147483648) (d o : Nat) (z : Int) (L st : List Value) (T : Tt) (σ : St) (Q : vmO → vmH → Prop) (hso : sh (A tag o) = (0, 1, n, tag, o)) (h0 : 0 ≤ z) (h1 : z < n) : Wp d y pc L (.int (i32 z) :: .ref (A tag o) :: st) (E T σ) Q = Wp d y nx L (.long (i64 (σ tag o z)) :: st) (E T σ) Q := by
  refine wp_step ht (fun z => by cases z) (fun z => by cases z) (fun z => by cases z) ?_
  show vmO18 nx 1 L (.int (i32 z) :: .ref (A tag o) :: st) (E T σ) = _
  unfold vmO18
  dsimp only
  rw [E_at (s := (0, 1, n, tag, o)) (hso) (fun z => by cases z)]
  have hc := i32_cl h0 (by omega : z < 2147483648)
  have hv : vmLd 1 (.inl (1, n, .inr (.inl fun i => i64 (σ tag o i)))) (i32 z) = some (.long (i64 (σ tag o z))) := by
    show (if vmIn (i32 z) n = true then _ else none) = _
    rw [if_pos (i32_in h0 h1 hn)]
    dsimp only
    rw [hc]
  show (match vmLd 1 _ (i32 z) with
    | some v => some (nx, L, v :: st, E T σ)
    | none => none) = _
  rw [hv]
theorem g_bald {tag n : Nat} {y : vmM} {pc nx : Nat} (ht : vmTab y pc = some (18, nx, 0, 0, 2, [])) (hn : n < 2147483648) (d o : Nat) (z : Int) (L st : List Value) (T : Tt) (σ : St) (Q : vmO → vmH → Prop) (hso : sh (A tag o) = (0, 2, n, tag, o)) (h0 : 0 ≤ z) (h1 : z < n) : Wp d y pc L (.int (i32 z) :: .ref (A tag o) :: st) (E T σ) Q = Wp d y nx L (.int (i32 (σ tag o z)) :: st) (E T σ) Q := by
  refine wp_step ht (fun z => by cases z) (fun z => by cases z) (fun z => by cases z) ?_
  show vmO18 nx 2 L (.int (i32 z) :: .ref (A tag o) :: st) (E T σ) = _
  unfold vmO18
  dsimp only
  rw [E_at (s := (0, 2, n, tag, o)) (hso) (fun z => by cases z)]
  have hc := i32_cl h0 (by omega : z < 2147483648)
  have hv : vmLd 2 (.inl (2, n, .inl fun i => i32 (σ tag o i))) (i32 z) = some (.int (i32 (σ tag o z))) := by
    show (if vmIn (i32 z) n = true then _ else none) = _
    rw [if_pos (i32_in h0 h1 hn)]
    dsimp only
    rw [hc]
  show (match vmLd 2 _ (i32 z) with
    | some v => some (nx, L, v :: st, E T σ)
    | none => none) = _
  rw [hv]
theorem g_iast {tag n : Nat} {y : vmM} {pc nx : Nat} (ht : vmTab y pc = some (19, nx, 0, 0, 0, [])) (hn : n < 2147483648) (d o : Nat) (z : Int) (v : Int) (L st : List Value) (T : Tt) (σ : St) (Q : vmO → vmH → Prop) (hso : sh (A tag o) = (0, 0, n, tag, o)) (h0 : 0 ≤ z) (h1 : z < n) : Wp d y pc L (.int (i32 v) :: .int (i32 z) :: .ref (A tag o) :: st) (E T σ) Q = Wp d y nx L st (E T (upA σ tag o (fu (σ tag o) z (v)))) Q := by
  refine wp_step ht (fun z => by cases z) (fun z => by cases z) (fun z => by cases z) ?_
  show vmO19 nx 0 L (.int (i32 v) :: .int (i32 z) :: .ref (A tag o) :: st) (E T σ) = _
  unfold vmO19
  dsimp only
  have hsz := hso
  have hlt : A tag o < 406 := sh_lt (by rw [hsz]; show (0 : Nat) ≠ 9; decide)
  rw [if_pos (show vmOwn (A tag o) = true from (Nat.blt_eq).mpr (by omega)), E_at (s := (0, 0, n, tag, o)) hsz (fun z => by cases z)]
  have hv : vmSt 0 (.inl (0, n, .inl fun i : Nat => i32 (σ tag o i))) (i32 z) (.int (i32 v)) = some (.inl (0, n, .inl (upd (fun i : Nat => i32 (σ tag o i)) (i32 z).toNatClampNeg (i32 v)))) := by
    show (if vmIn (i32 z) n = true then _ else none) = _
    rw [if_pos (i32_in h0 h1 hn)]
  show (match vmSt 0 _ (i32 z) (.int (i32 v)) with
    | some c => some (nx, L, st, vmSet (E T σ) (A tag o) c)
    | none => none) = _
  rw [hv]
  dsimp only
  rw [E_setA (f := fu (σ tag o) z (v)) hsz]
  show some (Sum.inl (_, n, _)) = _
  rw [upA_s]
  have hfn : upd (fun i : Nat => i32 (σ tag o i)) (i32 z).toNatClampNeg (i32 v) = fun i : Nat => i32 (fu (σ tag o) z v i) := by
    funext i
    rw [← va_up_i h0 (by omega)]
  rw [hfn]
theorem g_last {tag n : Nat} {y : vmM} {pc nx : Nat} (ht : vmTab y pc = some (19, nx, 0, 0, 1, [])) (hn : n < 2147483648) (d o : Nat) (z : Int) (v : Int64) (L st : List Value) (T : Tt) (σ : St) (Q : vmO → vmH → Prop) (hso : sh (A tag o) = (0, 1, n, tag, o)) (h0 : 0 ≤ z) (h1 : z < n) : Wp d y pc L (.long v :: .int (i32 z) :: .ref (A tag o) :: st) (E T σ) Q = Wp d y nx L st (E T (upA σ tag o (fu (σ tag o) z (v.toInt)))) Q := by
  refine wp_step ht (fun z => by cases z) (fun z => by cases z) (fun z => by cases z) ?_
  show vmO19 nx 1 L (.long v :: .int (i32 z) :: .ref (A tag o) :: st) (E T σ) = _
  unfold vmO19
  dsimp only
  have hsz := hso
  have hlt : A tag o < 406 := sh_lt (by rw [hsz]; show (0 : Nat) ≠ 9; decide)
  rw [if_pos (show vmOwn (A tag o) = true from (Nat.blt_eq).mpr (by omega)), E_at (s := (0, 1, n, tag, o)) hsz (fun z => by cases z)]
  have hv : vmSt 1 (.inl (1, n, .inr (.inl fun i : Nat => i64 (σ tag o i)))) (i32 z) (.long v) = some (.inl (1, n, .inr (.inl (va_up (fun i : Nat => i64 (σ tag o i)) (i32 z).toNatClampNeg v)))) := by
    show (if vmIn (i32 z) n = true then _ else none) = _
    rw [if_pos (i32_in h0 h1 hn)]
  show (match vmSt 1 _ (i32 z) (.long v) with
    | some c => some (nx, L, st, vmSet (E T σ) (A tag o) c)
    | none => none) = _
  rw [hv]
  dsimp only
  rw [E_setA (f := fu (σ tag o) z (v.toInt)) hsz]
  show some (Sum.inl (_, n, _)) = _
  rw [upA_s]
  have hfn : va_up (fun i : Nat => i64 (σ tag o i)) (i32 z).toNatClampNeg v = fun i : Nat => i64 (fu (σ tag o) z v.toInt i) := by
    funext i
    rw [← va_up_l h0 (by omega), i64_toInt]
  rw [hfn]
theorem g_bast {tag n : Nat} {y : vmM} {pc nx : Nat} (ht : vmTab y pc = some (19, nx, 0, 0, 2, [])) (hn : n < 2147483648) (d o : Nat) (z : Int) (v : Int) (L st : List Value) (T : Tt) (σ : St) (Q : vmO → vmH → Prop) (hso : sh (A tag o) = (0, 2, n, tag, o)) (h0 : 0 ≤ z) (h1 : z < n) (hb : v = 0 ∨ v = 1) : Wp d y pc L (.int (i32 v) :: .int (i32 z) :: .ref (A tag o) :: st) (E T σ) Q = Wp d y nx L st (E T (upA σ tag o (fu (σ tag o) z (v)))) Q := by
  refine wp_step ht (fun z => by cases z) (fun z => by cases z) (fun z => by cases z) ?_
  show vmO19 nx 2 L (.int (i32 v) :: .int (i32 z) :: .ref (A tag o) :: st) (E T σ) = _
  unfold vmO19
  dsimp only
  have hsz := hso
  have hlt : A tag o < 406 := sh_lt (by rw [hsz]; show (0 : Nat) ≠ 9; decide)
  rw [if_pos (show vmOwn (A tag o) = true from (Nat.blt_eq).mpr (by omega)), E_at (s := (0, 2, n, tag, o)) hsz (fun z => by cases z)]
  have hv : vmSt 2 (.inl (2, n, .inl fun i : Nat => i32 (σ tag o i))) (i32 z) (.int (i32 v)) = some (.inl (2, n, .inl (upd (fun i : Nat => i32 (σ tag o i)) (i32 z).toNatClampNeg (i32 v)))) := by
    show (if vmIn (i32 z) n = true then _ else none) = _
    rw [if_pos (i32_in h0 h1 hn)]
    rw [if_pos (show i32 v = 0 ∨ i32 v = 1 by rcases hb with rfl | rfl; exact Or.inl rfl; exact Or.inr rfl)]
  show (match vmSt 2 _ (i32 z) (.int (i32 v)) with
    | some c => some (nx, L, st, vmSet (E T σ) (A tag o) c)
    | none => none) = _
  rw [hv]
  dsimp only
  rw [E_setA (f := fu (σ tag o) z (v)) hsz]
  show some (Sum.inl (_, n, _)) = _
  rw [upA_s]
  have hfn : upd (fun i : Nat => i32 (σ tag o i)) (i32 z).toNatClampNeg (i32 v) = fun i : Nat => i32 (fu (σ tag o) z v i) := by
    funext i
    rw [← va_up_i h0 (by omega)]
  rw [hfn]
theorem g_alen {tag n ty : Nat} {y : vmM} {pc nx : Nat} (ht : vmTab y pc = some (17, nx, 0, 0, 0, [])) (d o : Nat) (L st : List Value) (T : Tt) (σ : St) (Q : vmO → vmH → Prop) (hso : sh (A tag o) = (0, ty, n, tag, o)) : Wp d y pc L (.ref (A tag o) :: st) (E T σ) Q = Wp d y nx L (.int (i32 n) :: st) (E T σ) Q := by
  refine wp_step ht (fun z => by cases z) (fun z => by cases z) (fun z => by cases z) ?_
  show vmO17 nx L (.ref (A tag o) :: st) (E T σ) = _
  unfold vmO17
  dsimp only
  rw [E_at (s := (0, ty, n, tag, o)) (hso) (fun z => by cases z)]
  have hv : ∃ c, ce σ (A tag o) (0, ty, n, tag, o) = some c ∧ vmLen c = some (i32 n) := by
    simp only [ce]
    split
    · refine ⟨_, rfl, ?_⟩; show some (Int32.ofNat n) = some (Int32.ofInt n); rw [Int32.ofInt_eq_ofNat]
    · refine ⟨_, rfl, ?_⟩; show some (Int32.ofNat n) = some (Int32.ofInt n); rw [Int32.ofInt_eq_ofNat]
  obtain ⟨c, hc1, hc2⟩ := hv
  rw [hc1]
  dsimp only
  rw [hc2]
