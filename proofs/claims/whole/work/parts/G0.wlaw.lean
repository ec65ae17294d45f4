/-! ===== the law's own rows: out, the script ===== -/
theorem sh405 : sh (A 1300 405) = (0, 1, 1, 1300, 405) := by decide +kernel
theorem A405 : A 1300 405 = 405 := by decide +kernel
theorem o_lastG {tag n o : Nat} {y : vmM} {pc nx : Nat} (ht : vmTab y pc = some (19, nx, 0, 0, 1, [])) (hsz : sh (A tag o) = (0, 1, n, tag, o)) (hn : n < 2147483648) (d : Nat) (z : Int) (v : Int64) (L st : List Value) (T : Tt) (σ : St) (Q : vmO → vmH → Prop) (h0 : 0 ≤ z) (h1 : z < n) : Wp d y pc L (.long v :: .int (i32 z) :: .ref (A tag o) :: st) (E T σ) Q = Wp d y nx L st (E T (upA σ tag o (fu (σ tag o) z (v.toInt)))) Q := by
  refine wp_step ht (fun z => by cases z) (fun z => by cases z) (fun z => by cases z) ?_
  show vmO19 nx 1 L (.long v :: .int (i32 z) :: .ref (A tag o) :: st) (E T σ) = _
  unfold vmO19
  dsimp only
  have hlt : A tag o < 406 := sh_lt (by rw [hsz]; show (0 : Nat) ≠ 9; decide)
  rw [if_pos (show vmOwn (A tag o) = true from (Nat.blt_eq).mpr (by omega)), E_at (s := (0, 1, n, tag, o)) hsz (fun z => by cases z)]
  have hv : vmSt 1 (.inl (1, n, .inr (.inl fun i : Nat => i64 (σ tag o i)))) (i32 z) (.long v) = some (.inl (1, n, .inr (.inl (va_up (fun i : Nat => i64 (σ tag o i)) (i32 z).toNatClampNeg v)))) := by
    show (if vmIn (i32 z) n = true then _ else none) = _
    rw [if_pos (i32_in h0 h1 hn)]
  show (match vmSt 1 _ (i32 z) (.long v) with
    | some c => some (nx, L, st, vmSet (E T σ) (A tag o) c)
    | none => none) = _
  rw [hv]
  dsimp only
  rw [E_setA (f := fu (σ tag o) z (v.toInt)) hsz]
  show some (Sum.inl (_, n, _)) = _
  rw [upA_s]
  have hfn : va_up (fun i : Nat => i64 (σ tag o i)) (i32 z).toNatClampNeg v = fun i : Nat => i64 (fu (σ tag o) z v.toInt i) := by
    funext i
    rw [← va_up_l h0 (by omega), i64_toInt]
  rw [hfn]
theorem o_laldG {tag n o : Nat} {y : vmM} {pc nx : Nat} (ht : vmTab y pc = some (18, nx, 0, 0, 1, [])) (hsz : sh (A tag o) = (0, 1, n, tag, o)) (hn : n < 2147483648) (d : Nat) (z : Int) (L st : List Value) (T : Tt) (σ : St) (Q : vmO → vmH → Prop) (h0 : 0 ≤ z) (h1 : z < n) : Wp d y pc L (.int (i32 z) :: .ref (A tag o) :: st) (E T σ) Q = Wp d y nx L (.long (i64 (σ tag o z)) :: st) (E T σ) Q := by
  refine wp_step ht (fun z => by cases z) (fun z => by cases z) (fun z => by cases z) ?_
  show vmO18 nx 1 L (.int (i32 z) :: .ref (A tag o) :: st) (E T σ) = _
  unfold vmO18
  dsimp only
  rw [E_at (s := (0, 1, n, tag, o)) hsz (fun z => by cases z)]
  have hc := i32_cl h0 (by omega : z < 2147483648)
  have hv : vmLd 1 (.inl (1, n, .inr (.inl fun i => i64 (σ tag o i)))) (i32 z) = some (.long (i64 (σ tag o z))) := by
    show (if vmIn (i32 z) n = true then _ else none) = _
    rw [if_pos (i32_in h0 h1 hn)]
    dsimp only
    rw [hc]
  show (match vmLd 1 _ (i32 z) with
    | some v => some (nx, L, v :: st, E T σ)
    | none => none) = _
  rw [hv]
abbrev P_lst4 (y : vmM) (pc nx : Nat) : Prop := ∀ (d : Nat) (v : Int64) (L st : List Value) (T : Tt) (σ : St) (Q : vmO → vmH → Prop), Wp d y pc L (.long v :: .int (i32 0) :: .ref 405 :: st) (E T σ) Q = Wp d y nx L st (E T (upA σ 1300 405 (fu (σ 1300 405) 0 v.toInt))) Q
theorem o_lst4 {y : vmM} {pc nx : Nat} (ht : vmTab y pc = some (19, nx, 0, 0, 1, [])) : P_lst4 y pc nx := by
  intro d v L st T σ Q
  rw [show (Value.ref 405) = Value.ref (A 1300 405) by rw [A405]]
  exact o_lastG ht sh405 (by omega) d 0 v L st T σ Q (by omega) (by omega)
abbrev P_lld4 (y : vmM) (pc nx : Nat) : Prop := ∀ (d : Nat) (L st : List Value) (T : Tt) (σ : St) (Q : vmO → vmH → Prop), Wp d y pc L (.int (i32 0) :: .ref 405 :: st) (E T σ) Q = Wp d y nx L (.long (i64 (σ 1300 405 0)) :: st) (E T σ) Q
theorem o_lld4 {y : vmM} {pc nx : Nat} (ht : vmTab y pc = some (18, nx, 0, 0, 1, [])) : P_lld4 y pc nx := by
  intro d L st T σ Q
  rw [show (Value.ref 405) = Value.ref (A 1300 405) by rw [A405]]
  exact o_laldG ht sh405 (by omega) d 0 L st T σ Q (by omega) (by omega)
theorem E_scr {T : Tt} {σ : St} : (E T σ).2.2.2 2000000 = some (.inl (0, T.2.2.2.1, .inl fun j => i32 (T.2.2.2.2 j))) := by
  show (if (2000000 : Nat) < 406 then ce σ 2000000 (sh 2000000) else if (2000000 : Nat) < 1000000 then none else xt T 2000000) = _
  rw [if_neg (by omega), if_neg (by omega)]
  unfold xt
  rw [if_neg (by omega), if_pos rfl]
abbrev P_sln (y : vmM) (pc nx : Nat) : Prop := ∀ (d : Nat) (L st : List Value) (t1 t2 : Nat) (t3 : Bool) (n : Nat) (S : Nat → Int) (σ : St) (Q : vmO → vmH → Prop), Wp d y pc L (.ref 2000000 :: st) (E (t1, t2, t3, n, S) σ) Q = Wp d y nx L (.int (i32 n) :: st) (E (t1, t2, t3, n, S) σ) Q
theorem o_sln {y : vmM} {pc nx : Nat} (ht : vmTab y pc = some (17, nx, 0, 0, 0, [])) : P_sln y pc nx := by
  intro d L st t1 t2 t3 n S σ Q
  refine wp_step ht (fun z => by cases z) (fun z => by cases z) (fun z => by cases z) ?_
  show vmO17 nx L (.ref 2000000 :: st) (E (t1, t2, t3, n, S) σ) = _
  unfold vmO17
  dsimp only
  rw [E_scr]
  rfl
abbrev P_sld (y : vmM) (pc nx : Nat) : Prop := ∀ (d : Nat) (z : Int) (L st : List Value) (t1 t2 : Nat) (t3 : Bool) (n : Nat) (S : Nat → Int) (σ : St) (Q : vmO → vmH → Prop) (_ : 0 ≤ z) (_ : z < (n : Int)) (_ : (n : Int) < 2147483648), Wp d y pc L (.int (i32 z) :: .ref 2000000 :: st) (E (t1, t2, t3, n, S) σ) Q = Wp d y nx L (.int (i32 (S z.toNat)) :: st) (E (t1, t2, t3, n, S) σ) Q
theorem o_sld {y : vmM} {pc nx : Nat} (ht : vmTab y pc = some (18, nx, 0, 0, 0, [])) : P_sld y pc nx := by
  intro d z L st t1 t2 t3 n S σ Q h0 h1 hn
  have hn' : n < 2147483648 := by omega
  refine wp_step ht (fun z => by cases z) (fun z => by cases z) (fun z => by cases z) ?_
  show vmO18 nx 0 L (.int (i32 z) :: .ref 2000000 :: st) (E (t1, t2, t3, n, S) σ) = _
  unfold vmO18
  dsimp only
  rw [E_scr]
  have hc : (i32 z).toNatClampNeg = z.toNat := by
    have a := i32_cl h0 (by omega : z < 2147483648)
    omega
  have hv : vmLd 0 (.inl (0, n, .inl fun j => i32 (S j))) (i32 z) = some (.int (i32 (S z.toNat))) := by
    show (if vmIn (i32 z) n = true then _ else none) = _
    rw [if_pos (i32_in h0 h1 hn')]
    dsimp only
    rw [hc]
  show (match vmLd 0 _ (i32 z) with
    | some v => some (nx, L, v :: st, E (t1, t2, t3, n, S) σ)
    | none => none) = _
  rw [hv]
theorem n322 (d : Nat) (k : Int) (a0 : Nat) (a1 : Int) (a2 : Nat) (h : vmH) (Q : vmO → vmH → Prop) (hk : 4 ≤ k) : Ca d k 322 [.ref a0, .int (i32 a1), .ref a2] h Q = Wp d M_L_park 0 [.ref a0, .int (i32 a1), .ref a2, vmJ] [] h Q := ca_in rfl (fun z => absurd hk (Int.not_le.mpr z)) (Nat.le_of_ble_eq_true rfl) rfl
theorem w322_0 : P_rl2 M_L_park 0 1 0 := o_rl2 rfl
theorem w322_1 : P_ic M_L_park 1 2 0 (0) := o_ic rfl
theorem w322_2 : P_rl0 M_L_park 2 3 0 := o_rl0 rfl
theorem w322_3 : P_il1 M_L_park 3 4 0 := o_il1 rfl
theorem w322_4 : P_ca2 M_L_park 4 7 1 115 := o_ca2 rfl
theorem w322_7 : P_i2l M_L_park 7 8 0 := o_i2l rfl
theorem w322_8 : P_lst4 M_L_park 8 9 := o_lst4 rfl
theorem w322_9 : P_go M_L_park 9 0 15 := o_go rfl
theorem w322_15 : P_ic M_L_park 15 16 0 (0) := o_ic rfl
theorem w322_16 : P_ri M_L_park 16 := o_ri rfl rfl
theorem n323 (d : Nat) (k : Int) (a0 : Nat) (a1 : Int) (a2 : Int) (a3 : Nat) (h : vmH) (Q : vmO → vmH → Prop) (hk : 4 ≤ k) : Ca d k 323 [.ref a0, .int (i32 a1), .int (i32 a2), .ref a3] h Q = Wp d M_L_cell 0 [.ref a0, .int (i32 a1), .int (i32 a2), .ref a3, vmJ] [] h Q := ca_in rfl (fun z => absurd hk (Int.not_le.mpr z)) (Nat.le_of_ble_eq_true rfl) rfl
theorem w323_0 : P_rl3 M_L_cell 0 1 0 := o_rl3 rfl
theorem w323_1 : P_ic M_L_cell 1 2 0 (0) := o_ic rfl
theorem w323_2 : P_rl0 M_L_cell 2 3 0 := o_rl0 rfl
theorem w323_3 : P_il1 M_L_cell 3 4 0 := o_il1 rfl
theorem w323_4 : P_il2 M_L_cell 4 5 0 := o_il2 rfl
theorem w323_5 : P_ca3 M_L_cell 5 8 1 117 := o_ca3 rfl
theorem w323_8 : P_i2l M_L_cell 8 9 0 := o_i2l rfl
theorem w323_9 : P_lst4 M_L_cell 9 10 := o_lst4 rfl
theorem w323_10 : P_go M_L_cell 10 0 21 := o_go rfl
theorem w323_21 : P_ic M_L_cell 21 22 0 (0) := o_ic rfl
theorem w323_22 : P_ri M_L_cell 22 := o_ri rfl rfl
theorem n324 (d : Nat) (k : Int) (a0 : Nat) (a1 : Int) (a2 : Int) (a3 : Nat) (h : vmH) (Q : vmO → vmH → Prop) (hk : 4 ≤ k) : Ca d k 324 [.ref a0, .int (i32 a1), .int (i32 a2), .ref a3] h Q = Wp d M_L_walker 0 [.ref a0, .int (i32 a1), .int (i32 a2), .ref a3, vmJ] [] h Q := ca_in rfl (fun z => absurd hk (Int.not_le.mpr z)) (Nat.le_of_ble_eq_true rfl) rfl
theorem w324_0 : P_rl3 M_L_walker 0 1 0 := o_rl3 rfl
theorem w324_1 : P_ic M_L_walker 1 2 0 (0) := o_ic rfl
theorem w324_2 : P_rl0 M_L_walker 2 3 0 := o_rl0 rfl
theorem w324_3 : P_il1 M_L_walker 3 4 0 := o_il1 rfl
theorem w324_4 : P_il2 M_L_walker 4 5 0 := o_il2 rfl
theorem w324_5 : P_ca3 M_L_walker 5 8 1 118 := o_ca3 rfl
theorem w324_8 : P_i2l M_L_walker 8 9 0 := o_i2l rfl
theorem w324_9 : P_lst4 M_L_walker 9 10 := o_lst4 rfl
theorem w324_10 : P_go M_L_walker 10 0 21 := o_go rfl
theorem w324_21 : P_ic M_L_walker 21 22 0 (0) := o_ic rfl
theorem w324_22 : P_ri M_L_walker 22 := o_ri rfl rfl
theorem n325 (d : Nat) (k : Int) (a0 : Nat) (a1 : Int) (a2 : Int) (a3 : Nat) (h : vmH) (Q : vmO → vmH → Prop) (hk : 4 ≤ k) : Ca d k 325 [.ref a0, .int (i32 a1), .int (i32 a2), .ref a3] h Q = Wp d M_L_walk 0 [.ref a0, .int (i32 a1), .int (i32 a2), .ref a3, vmJ] [] h Q := ca_in rfl (fun z => absurd hk (Int.not_le.mpr z)) (Nat.le_of_ble_eq_true rfl) rfl
theorem w325_0 : P_rl3 M_L_walk 0 1 0 := o_rl3 rfl
theorem w325_1 : P_ic M_L_walk 1 2 0 (0) := o_ic rfl
theorem w325_2 : P_rl0 M_L_walk 2 3 0 := o_rl0 rfl
theorem w325_3 : P_il1 M_L_walk 3 4 0 := o_il1 rfl
theorem w325_4 : P_il2 M_L_walk 4 5 0 := o_il2 rfl
theorem w325_5 : P_ca3 M_L_walk 5 8 1 121 := o_ca3 rfl
theorem w325_8 : P_i2l M_L_walk 8 9 0 := o_i2l rfl
theorem w325_9 : P_lst4 M_L_walk 9 10 := o_lst4 rfl
theorem w325_10 : P_go M_L_walk 10 0 17 := o_go rfl
theorem w325_17 : P_ic M_L_walk 17 18 0 (0) := o_ic rfl
theorem w325_18 : P_ri M_L_walk 18 := o_ri rfl rfl
theorem n326 (d : Nat) (k : Int) (a0 : Nat) (a1 : Int) (a2 : Int) (a3 : Nat) (h : vmH) (Q : vmO → vmH → Prop) (hk : 4 ≤ k) : Ca d k 326 [.ref a0, .int (i32 a1), .int (i32 a2), .ref a3] h Q = Wp d M_L_clip 0 [.ref a0, .int (i32 a1), .int (i32 a2), .ref a3, vmJ] [] h Q := ca_in rfl (fun z => absurd hk (Int.not_le.mpr z)) (Nat.le_of_ble_eq_true rfl) rfl
theorem w326_0 : P_rl3 M_L_clip 0 1 0 := o_rl3 rfl
theorem w326_1 : P_ic M_L_clip 1 2 0 (0) := o_ic rfl
theorem w326_2 : P_rl0 M_L_clip 2 3 0 := o_rl0 rfl
theorem w326_3 : P_il1 M_L_clip 3 4 0 := o_il1 rfl
theorem w326_4 : P_il2 M_L_clip 4 5 0 := o_il2 rfl
theorem w326_5 : P_ca3 M_L_clip 5 8 1 122 := o_ca3 rfl
theorem w326_8 : P_i2l M_L_clip 8 9 0 := o_i2l rfl
theorem w326_9 : P_lst4 M_L_clip 9 10 := o_lst4 rfl
theorem w326_10 : P_go M_L_clip 10 0 25 := o_go rfl
theorem w326_25 : P_ic M_L_clip 25 26 0 (0) := o_ic rfl
theorem w326_26 : P_ri M_L_clip 26 := o_ri rfl rfl
theorem n327 (d : Nat) (k : Int) (a0 : Nat) (a1 : Int) (a2 : Int) (a3 : Nat) (h : vmH) (Q : vmO → vmH → Prop) (hk : 4 ≤ k) : Ca d k 327 [.ref a0, .int (i32 a1), .int (i32 a2), .ref a3] h Q = Wp d M_L_plant 0 [.ref a0, .int (i32 a1), .int (i32 a2), .ref a3, vmJ] [] h Q := ca_in rfl (fun z => absurd hk (Int.not_le.mpr z)) (Nat.le_of_ble_eq_true rfl) rfl
theorem w327_0 : P_rl3 M_L_plant 0 1 0 := o_rl3 rfl
theorem w327_1 : P_ic M_L_plant 1 2 0 (0) := o_ic rfl
theorem w327_2 : P_rl0 M_L_plant 2 3 0 := o_rl0 rfl
theorem w327_3 : P_il1 M_L_plant 3 4 0 := o_il1 rfl
theorem w327_4 : P_il2 M_L_plant 4 5 0 := o_il2 rfl
theorem w327_5 : P_ca3 M_L_plant 5 8 1 123 := o_ca3 rfl
theorem w327_8 : P_i2l M_L_plant 8 9 0 := o_i2l rfl
theorem w327_9 : P_lst4 M_L_plant 9 10 := o_lst4 rfl
theorem w327_10 : P_go M_L_plant 10 0 25 := o_go rfl
theorem w327_25 : P_ic M_L_plant 25 26 0 (0) := o_ic rfl
theorem w327_26 : P_ri M_L_plant 26 := o_ri rfl rfl
theorem n328 (d : Nat) (k : Int) (a0 : Nat) (a1 : Int) (a2 : Nat) (h : vmH) (Q : vmO → vmH → Prop) (hk : 4 ≤ k) : Ca d k 328 [.ref a0, .int (i32 a1), .ref a2] h Q = Wp d M_L_nights 0 [.ref a0, .int (i32 a1), .ref a2, vmJ] [] h Q := ca_in rfl (fun z => absurd hk (Int.not_le.mpr z)) (Nat.le_of_ble_eq_true rfl) rfl
theorem w328_0 : P_rl2 M_L_nights 0 1 0 := o_rl2 rfl
theorem w328_1 : P_ic M_L_nights 1 2 0 (0) := o_ic rfl
theorem w328_2 : P_rl0 M_L_nights 2 3 0 := o_rl0 rfl
theorem w328_3 : P_il1 M_L_nights 3 4 0 := o_il1 rfl
theorem w328_4 : P_ca2 M_L_nights 4 7 1 124 := o_ca2 rfl
theorem w328_7 : P_i2l M_L_nights 7 8 0 := o_i2l rfl
theorem w328_8 : P_lst4 M_L_nights 8 9 := o_lst4 rfl
theorem w328_9 : P_go M_L_nights 9 0 15 := o_go rfl
theorem w328_15 : P_ic M_L_nights 15 16 0 (0) := o_ic rfl
theorem w328_16 : P_ri M_L_nights 16 := o_ri rfl rfl
theorem n329 (d : Nat) (k : Int) (a0 : Nat) (a1 : Int) (a2 : Nat) (h : vmH) (Q : vmO → vmH → Prop) (hk : 4 ≤ k) : Ca d k 329 [.ref a0, .int (i32 a1), .ref a2] h Q = Wp d M_L_undo 0 [.ref a0, .int (i32 a1), .ref a2, vmJ] [] h Q := ca_in rfl (fun z => absurd hk (Int.not_le.mpr z)) (Nat.le_of_ble_eq_true rfl) rfl
theorem w329_0 : P_rl2 M_L_undo 0 1 0 := o_rl2 rfl
theorem w329_1 : P_ic M_L_undo 1 2 0 (0) := o_ic rfl
theorem w329_2 : P_rl0 M_L_undo 2 3 0 := o_rl0 rfl
theorem w329_3 : P_il1 M_L_undo 3 4 0 := o_il1 rfl
theorem w329_4 : P_ca2 M_L_undo 4 7 1 125 := o_ca2 rfl
theorem w329_7 : P_i2l M_L_undo 7 8 0 := o_i2l rfl
theorem w329_8 : P_lst4 M_L_undo 8 9 := o_lst4 rfl
theorem w329_9 : P_go M_L_undo 9 0 15 := o_go rfl
theorem w329_15 : P_ic M_L_undo 15 16 0 (0) := o_ic rfl
theorem w329_16 : P_ri M_L_undo 16 := o_ri rfl rfl
theorem n330 (d : Nat) (k : Int) (a0 : Nat) (a1 : Int) (a2 : Int) (a3 : Nat) (h : vmH) (Q : vmO → vmH → Prop) (hk : 4 ≤ k) : Ca d k 330 [.ref a0, .int (i32 a1), .int (i32 a2), .ref a3] h Q = Wp d M_L_judge 0 [.ref a0, .int (i32 a1), .int (i32 a2), .ref a3, vmJ] [] h Q := ca_in rfl (fun z => absurd hk (Int.not_le.mpr z)) (Nat.le_of_ble_eq_true rfl) rfl
theorem w330_0 : P_rl3 M_L_judge 0 1 0 := o_rl3 rfl
theorem w330_1 : P_ic M_L_judge 1 2 0 (0) := o_ic rfl
theorem w330_2 : P_rl0 M_L_judge 2 3 0 := o_rl0 rfl
theorem w330_3 : P_il1 M_L_judge 3 4 0 := o_il1 rfl
theorem w330_4 : P_il2 M_L_judge 4 5 0 := o_il2 rfl
theorem w330_5 : P_ca3 M_L_judge 5 8 1 126 := o_ca3 rfl
theorem w330_8 : P_i2l M_L_judge 8 9 0 := o_i2l rfl
theorem w330_9 : P_lst4 M_L_judge 9 10 := o_lst4 rfl
theorem w330_10 : P_go M_L_judge 10 0 25 := o_go rfl
theorem w330_25 : P_ic M_L_judge 25 26 0 (0) := o_ic rfl
theorem w330_26 : P_ri M_L_judge 26 := o_ri rfl rfl
theorem n331 (d : Nat) (k : Int) (a0 : Nat) (a1 : Int) (a2 : Nat) (h : vmH) (Q : vmO → vmH → Prop) (hk : 4 ≤ k) : Ca d k 331 [.ref a0, .int (i32 a1), .ref a2] h Q = Wp d M_L_perform 0 [.ref a0, .int (i32 a1), .ref a2, vmJ] [] h Q := ca_in rfl (fun z => absurd hk (Int.not_le.mpr z)) (Nat.le_of_ble_eq_true rfl) rfl
theorem w331_0 : P_rl2 M_L_perform 0 1 0 := o_rl2 rfl
theorem w331_1 : P_ic M_L_perform 1 2 0 (0) := o_ic rfl
theorem w331_2 : P_rl0 M_L_perform 2 3 0 := o_rl0 rfl
theorem w331_3 : P_il1 M_L_perform 3 4 0 := o_il1 rfl
theorem w331_4 : P_ca2 M_L_perform 4 7 1 127 := o_ca2 rfl
theorem w331_7 : P_i2l M_L_perform 7 8 0 := o_i2l rfl
theorem w331_8 : P_lst4 M_L_perform 8 9 := o_lst4 rfl
theorem w331_9 : P_go M_L_perform 9 0 18 := o_go rfl
theorem w331_18 : P_ic M_L_perform 18 19 0 (0) := o_ic rfl
theorem w331_19 : P_ri M_L_perform 19 := o_ri rfl rfl
theorem n332 (d : Nat) (k : Int) (a0 : Nat) (a1 : Int) (a2 : Int) (a3 : Nat) (h : vmH) (Q : vmO → vmH → Prop) (hk : 4 ≤ k) : Ca d k 332 [.ref a0, .int (i32 a1), .int (i32 a2), .ref a3] h Q = Wp d M_L_decade 0 [.ref a0, .int (i32 a1), .int (i32 a2), .ref a3, vmJ] [] h Q := ca_in rfl (fun z => absurd hk (Int.not_le.mpr z)) (Nat.le_of_ble_eq_true rfl) rfl
theorem w332_0 : P_rl3 M_L_decade 0 1 0 := o_rl3 rfl
theorem w332_1 : P_ic M_L_decade 1 2 0 (0) := o_ic rfl
theorem w332_2 : P_rl0 M_L_decade 2 3 0 := o_rl0 rfl
theorem w332_3 : P_il1 M_L_decade 3 4 0 := o_il1 rfl
theorem w332_4 : P_il2 M_L_decade 4 5 0 := o_il2 rfl
theorem w332_5 : P_ca3 M_L_decade 5 8 1 129 := o_ca3 rfl
theorem w332_8 : P_i2l M_L_decade 8 9 0 := o_i2l rfl
theorem w332_9 : P_lst4 M_L_decade 9 10 := o_lst4 rfl
theorem w332_10 : P_go M_L_decade 10 0 21 := o_go rfl
theorem w332_21 : P_ic M_L_decade 21 22 0 (0) := o_ic rfl
theorem w332_22 : P_ri M_L_decade 22 := o_ri rfl rfl
theorem n333 (d : Nat) (k : Int) (a0 : Nat) (a1 : Int) (a2 : Int) (a3 : Nat) (h : vmH) (Q : vmO → vmH → Prop) (hk : 4 ≤ k) : Ca d k 333 [.ref a0, .int (i32 a1), .int (i32 a2), .ref a3] h Q = Wp d M_L_soonest 0 [.ref a0, .int (i32 a1), .int (i32 a2), .ref a3, vmJ] [] h Q := ca_in rfl (fun z => absurd hk (Int.not_le.mpr z)) (Nat.le_of_ble_eq_true rfl) rfl
theorem w333_0 : P_rl3 M_L_soonest 0 1 0 := o_rl3 rfl
theorem w333_1 : P_ic M_L_soonest 1 2 0 (0) := o_ic rfl
theorem w333_2 : P_rl0 M_L_soonest 2 3 0 := o_rl0 rfl
theorem w333_3 : P_il1 M_L_soonest 3 4 0 := o_il1 rfl
theorem w333_4 : P_il2 M_L_soonest 4 5 0 := o_il2 rfl
theorem w333_5 : P_ca3 M_L_soonest 5 8 1 130 := o_ca3 rfl
theorem w333_8 : P_i2l M_L_soonest 8 9 0 := o_i2l rfl
theorem w333_9 : P_lst4 M_L_soonest 9 10 := o_lst4 rfl
theorem w333_10 : P_go M_L_soonest 10 0 17 := o_go rfl
theorem w333_17 : P_ic M_L_soonest 17 18 0 (0) := o_ic rfl
theorem w333_18 : P_ri M_L_soonest 18 := o_ri rfl rfl
theorem n334 (d : Nat) (k : Int) (a0 : Nat) (a1 : Int) (a2 : Int) (a3 : Int) (a4 : Nat) (h : vmH) (Q : vmO → vmH → Prop) (hk : 4 ≤ k) : Ca d k 334 [.ref a0, .int (i32 a1), .int (i32 a2), .int (i32 a3), .ref a4] h Q = Wp d M_L_way 0 [.ref a0, .int (i32 a1), .int (i32 a2), .int (i32 a3), .ref a4, vmJ] [] h Q := ca_in rfl (fun z => absurd hk (Int.not_le.mpr z)) (Nat.le_of_ble_eq_true rfl) rfl
theorem w334_0 : P_rl4 M_L_way 0 2 0 := o_rl4 rfl
theorem w334_2 : P_ic M_L_way 2 3 0 (0) := o_ic rfl
theorem w334_3 : P_rl0 M_L_way 3 4 0 := o_rl0 rfl
theorem w334_4 : P_il1 M_L_way 4 5 0 := o_il1 rfl
theorem w334_5 : P_il2 M_L_way 5 6 0 := o_il2 rfl
theorem w334_6 : P_il3 M_L_way 6 7 0 := o_il3 rfl
theorem w334_7 : P_ca4 M_L_way 7 10 1 131 := o_ca4 rfl
theorem w334_10 : P_i2l M_L_way 10 11 0 := o_i2l rfl
theorem w334_11 : P_lst4 M_L_way 11 12 := o_lst4 rfl
theorem w334_12 : P_go M_L_way 12 0 19 := o_go rfl
theorem w334_19 : P_ic M_L_way 19 20 0 (0) := o_ic rfl
theorem w334_20 : P_ri M_L_way 20 := o_ri rfl rfl
theorem n335 (d : Nat) (k : Int) (a0 : Nat) (a1 : Int) (a2 : Int) (a3 : Nat) (h : vmH) (Q : vmO → vmH → Prop) (hk : 4 ≤ k) : Ca d k 335 [.ref a0, .int (i32 a1), .int (i32 a2), .ref a3] h Q = Wp d M_L_ways 0 [.ref a0, .int (i32 a1), .int (i32 a2), .ref a3, vmJ] [] h Q := ca_in rfl (fun z => absurd hk (Int.not_le.mpr z)) (Nat.le_of_ble_eq_true rfl) rfl
theorem w335_0 : P_rl3 M_L_ways 0 1 0 := o_rl3 rfl
theorem w335_1 : P_ic M_L_ways 1 2 0 (0) := o_ic rfl
theorem w335_2 : P_rl0 M_L_ways 2 3 0 := o_rl0 rfl
theorem w335_3 : P_il1 M_L_ways 3 4 0 := o_il1 rfl
theorem w335_4 : P_il2 M_L_ways 4 5 0 := o_il2 rfl
theorem w335_5 : P_ca3 M_L_ways 5 8 1 132 := o_ca3 rfl
theorem w335_8 : P_lst4 M_L_ways 8 9 := o_lst4 rfl
theorem w335_9 : P_go M_L_ways 9 0 16 := o_go rfl
theorem w335_16 : P_ic M_L_ways 16 17 0 (0) := o_ic rfl
theorem w335_17 : P_ri M_L_ways 17 := o_ri rfl rfl
theorem n336 (d : Nat) (k : Int) (a0 : Nat) (a1 : Int) (a2 : Int) (a3 : Int) (a4 : Nat) (h : vmH) (Q : vmO → vmH → Prop) (hk : 4 ≤ k) : Ca d k 336 [.ref a0, .int (i32 a1), .int (i32 a2), .int (i32 a3), .ref a4] h Q = Wp d M_L_within 0 [.ref a0, .int (i32 a1), .int (i32 a2), .int (i32 a3), .ref a4, vmJ] [] h Q := ca_in rfl (fun z => absurd hk (Int.not_le.mpr z)) (Nat.le_of_ble_eq_true rfl) rfl
theorem w336_0 : P_rl4 M_L_within 0 2 0 := o_rl4 rfl
theorem w336_2 : P_ic M_L_within 2 3 0 (0) := o_ic rfl
theorem w336_3 : P_rl0 M_L_within 3 4 0 := o_rl0 rfl
theorem w336_4 : P_il1 M_L_within 4 5 0 := o_il1 rfl
theorem w336_5 : P_il2 M_L_within 5 6 0 := o_il2 rfl
theorem w336_6 : P_il3 M_L_within 6 7 0 := o_il3 rfl
theorem w336_7 : P_ca4 M_L_within 7 10 1 133 := o_ca4 rfl
theorem w336_10 : P_i2l M_L_within 10 11 0 := o_i2l rfl
theorem w336_11 : P_lst4 M_L_within 11 12 := o_lst4 rfl
theorem w336_12 : P_go M_L_within 12 0 23 := o_go rfl
theorem w336_23 : P_ic M_L_within 23 24 0 (0) := o_ic rfl
theorem w336_24 : P_ri M_L_within 24 := o_ri rfl rfl
theorem n337 (d : Nat) (k : Int) (a0 : Nat) (a1 : Int) (a2 : Int) (a3 : Int) (a4 : Nat) (h : vmH) (Q : vmO → vmH → Prop) (hk : 4 ≤ k) : Ca d k 337 [.ref a0, .int (i32 a1), .int (i32 a2), .int (i32 a3), .ref a4] h Q = Wp d M_L_steps 0 [.ref a0, .int (i32 a1), .int (i32 a2), .int (i32 a3), .ref a4, vmJ] [] h Q := ca_in rfl (fun z => absurd hk (Int.not_le.mpr z)) (Nat.le_of_ble_eq_true rfl) rfl
theorem w337_0 : P_rl4 M_L_steps 0 2 0 := o_rl4 rfl
theorem w337_2 : P_ic M_L_steps 2 3 0 (0) := o_ic rfl
theorem w337_3 : P_rl0 M_L_steps 3 4 0 := o_rl0 rfl
theorem w337_4 : P_il1 M_L_steps 4 5 0 := o_il1 rfl
theorem w337_5 : P_il2 M_L_steps 5 6 0 := o_il2 rfl
theorem w337_6 : P_il3 M_L_steps 6 7 0 := o_il3 rfl
theorem w337_7 : P_ca4 M_L_steps 7 10 1 134 := o_ca4 rfl
theorem w337_10 : P_i2l M_L_steps 10 11 0 := o_i2l rfl
theorem w337_11 : P_lst4 M_L_steps 11 12 := o_lst4 rfl
theorem w337_12 : P_go M_L_steps 12 0 23 := o_go rfl
theorem w337_23 : P_ic M_L_steps 23 24 0 (0) := o_ic rfl
theorem w337_24 : P_ri M_L_steps 24 := o_ri rfl rfl
theorem n338 (d : Nat) (k : Int) (a0 : Nat) (a1 : Int) (a2 : Int) (a3 : Int) (a4 : Nat) (h : vmH) (Q : vmO → vmH → Prop) (hk : 4 ≤ k) : Ca d k 338 [.ref a0, .int (i32 a1), .int (i32 a2), .int (i32 a3), .ref a4] h Q = Wp d M_L_cleared 0 [.ref a0, .int (i32 a1), .int (i32 a2), .int (i32 a3), .ref a4, vmJ] [] h Q := ca_in rfl (fun z => absurd hk (Int.not_le.mpr z)) (Nat.le_of_ble_eq_true rfl) rfl
theorem w338_0 : P_rl4 M_L_cleared 0 2 0 := o_rl4 rfl
theorem w338_2 : P_ic M_L_cleared 2 3 0 (0) := o_ic rfl
theorem w338_3 : P_rl0 M_L_cleared 3 4 0 := o_rl0 rfl
theorem w338_4 : P_il1 M_L_cleared 4 5 0 := o_il1 rfl
theorem w338_5 : P_il2 M_L_cleared 5 6 0 := o_il2 rfl
theorem w338_6 : P_il3 M_L_cleared 6 7 0 := o_il3 rfl
theorem w338_7 : P_ca4 M_L_cleared 7 10 1 135 := o_ca4 rfl
theorem w338_10 : P_i2l M_L_cleared 10 11 0 := o_i2l rfl
theorem w338_11 : P_lst4 M_L_cleared 11 12 := o_lst4 rfl
theorem w338_12 : P_go M_L_cleared 12 0 23 := o_go rfl
theorem w338_23 : P_ic M_L_cleared 23 24 0 (0) := o_ic rfl
theorem w338_24 : P_ri M_L_cleared 24 := o_ri rfl rfl
theorem n339 (d : Nat) (k : Int) (a0 : Nat) (a1 : Int) (a2 : Int) (a3 : Int) (a4 : Int) (a5 : Nat) (h : vmH) (Q : vmO → vmH → Prop) (hk : 4 ≤ k) : Ca d k 339 [.ref a0, .int (i32 a1), .int (i32 a2), .int (i32 a3), .int (i32 a4), .ref a5] h Q = Wp d M_L_clipFor 0 [.ref a0, .int (i32 a1), .int (i32 a2), .int (i32 a3), .int (i32 a4), .ref a5, vmJ] [] h Q := ca_in rfl (fun z => absurd hk (Int.not_le.mpr z)) (Nat.le_of_ble_eq_true rfl) rfl
theorem w339_0 : P_rl5 M_L_clipFor 0 2 0 := o_rl5 rfl
theorem w339_2 : P_ic M_L_clipFor 2 3 0 (0) := o_ic rfl
theorem w339_3 : P_rl0 M_L_clipFor 3 4 0 := o_rl0 rfl
theorem w339_4 : P_il1 M_L_clipFor 4 5 0 := o_il1 rfl
theorem w339_5 : P_il2 M_L_clipFor 5 6 0 := o_il2 rfl
theorem w339_6 : P_il3 M_L_clipFor 6 7 0 := o_il3 rfl
theorem w339_7 : P_il4 M_L_clipFor 7 9 0 := o_il4 rfl
theorem w339_9 : P_ca5 M_L_clipFor 9 12 1 136 := o_ca5 rfl
theorem w339_12 : P_i2l M_L_clipFor 12 13 0 := o_i2l rfl
theorem w339_13 : P_lst4 M_L_clipFor 13 14 := o_lst4 rfl
theorem w339_14 : P_go M_L_clipFor 14 0 25 := o_go rfl
theorem w339_25 : P_ic M_L_clipFor 25 26 0 (0) := o_ic rfl
theorem w339_26 : P_ri M_L_clipFor 26 := o_ri rfl rfl
theorem n340 (d : Nat) (k : Int) (a0 : Nat) (a1 : Int) (a2 : Int) (a3 : Nat) (h : vmH) (Q : vmO → vmH → Prop) (hk : 4 ≤ k) : Ca d k 340 [.ref a0, .int (i32 a1), .int (i32 a2), .ref a3] h Q = Wp d M_L_reach 0 [.ref a0, .int (i32 a1), .int (i32 a2), .ref a3, vmJ] [] h Q := ca_in rfl (fun z => absurd hk (Int.not_le.mpr z)) (Nat.le_of_ble_eq_true rfl) rfl
theorem w340_0 : P_rl3 M_L_reach 0 1 0 := o_rl3 rfl
theorem w340_1 : P_ic M_L_reach 1 2 0 (0) := o_ic rfl
theorem w340_2 : P_rl0 M_L_reach 2 3 0 := o_rl0 rfl
theorem w340_3 : P_il1 M_L_reach 3 4 0 := o_il1 rfl
theorem w340_4 : P_il2 M_L_reach 4 5 0 := o_il2 rfl
theorem w340_5 : P_ca3 M_L_reach 5 8 1 137 := o_ca3 rfl
theorem w340_8 : P_lst4 M_L_reach 8 9 := o_lst4 rfl
theorem w340_9 : P_go M_L_reach 9 0 20 := o_go rfl
theorem w340_20 : P_ic M_L_reach 20 21 0 (0) := o_ic rfl
theorem w340_21 : P_ri M_L_reach 21 := o_ri rfl rfl
theorem n341 (d : Nat) (k : Int) (a0 : Nat) (a1 : Int) (a2 : Nat) (h : vmH) (Q : vmO → vmH → Prop) (hk : 4 ≤ k) : Ca d k 341 [.ref a0, .int (i32 a1), .ref a2] h Q = Wp d M_L_farthest 0 [.ref a0, .int (i32 a1), .ref a2, vmJ] [] h Q := ca_in rfl (fun z => absurd hk (Int.not_le.mpr z)) (Nat.le_of_ble_eq_true rfl) rfl
theorem w341_0 : P_rl2 M_L_farthest 0 1 0 := o_rl2 rfl
theorem w341_1 : P_ic M_L_farthest 1 2 0 (0) := o_ic rfl
theorem w341_2 : P_rl0 M_L_farthest 2 3 0 := o_rl0 rfl
theorem w341_3 : P_il1 M_L_farthest 3 4 0 := o_il1 rfl
theorem w341_4 : P_ca2 M_L_farthest 4 7 1 138 := o_ca2 rfl
theorem w341_7 : P_i2l M_L_farthest 7 8 0 := o_i2l rfl
theorem w341_8 : P_lst4 M_L_farthest 8 9 := o_lst4 rfl
theorem w341_9 : P_go M_L_farthest 9 0 15 := o_go rfl
theorem w341_15 : P_ic M_L_farthest 15 16 0 (0) := o_ic rfl
theorem w341_16 : P_ri M_L_farthest 16 := o_ri rfl rfl
theorem n342 (d : Nat) (k : Int) (a0 : Nat) (a1 : Int) (a2 : Int) (a3 : Nat) (h : vmH) (Q : vmO → vmH → Prop) (hk : 4 ≤ k) : Ca d k 342 [.ref a0, .int (i32 a1), .int (i32 a2), .ref a3] h Q = Wp d M_L_round 0 [.ref a0, .int (i32 a1), .int (i32 a2), .ref a3, vmJ] [] h Q := ca_in rfl (fun z => absurd hk (Int.not_le.mpr z)) (Nat.le_of_ble_eq_true rfl) rfl
theorem w342_0 : P_rl3 M_L_round 0 1 0 := o_rl3 rfl
theorem w342_1 : P_ic M_L_round 1 2 0 (0) := o_ic rfl
theorem w342_2 : P_rl0 M_L_round 2 3 0 := o_rl0 rfl
theorem w342_3 : P_il1 M_L_round 3 4 0 := o_il1 rfl
theorem w342_4 : P_il2 M_L_round 4 5 0 := o_il2 rfl
theorem w342_5 : P_ca3 M_L_round 5 8 1 139 := o_ca3 rfl
theorem w342_8 : P_i2l M_L_round 8 9 0 := o_i2l rfl
theorem w342_9 : P_lst4 M_L_round 9 10 := o_lst4 rfl
theorem w342_10 : P_go M_L_round 10 0 21 := o_go rfl
theorem w342_21 : P_ic M_L_round 21 22 0 (0) := o_ic rfl
theorem w342_22 : P_ri M_L_round 22 := o_ri rfl rfl
theorem n343 (d : Nat) (k : Int) (a0 : Nat) (a1 : Int) (a2 : Int) (a3 : Nat) (h : vmH) (Q : vmO → vmH → Prop) (hk : 4 ≤ k) : Ca d k 343 [.ref a0, .int (i32 a1), .int (i32 a2), .ref a3] h Q = Wp d M_L_bestOrder 0 [.ref a0, .int (i32 a1), .int (i32 a2), .ref a3, vmJ] [] h Q := ca_in rfl (fun z => absurd hk (Int.not_le.mpr z)) (Nat.le_of_ble_eq_true rfl) rfl
theorem w343_0 : P_rl3 M_L_bestOrder 0 1 0 := o_rl3 rfl
theorem w343_1 : P_ic M_L_bestOrder 1 2 0 (0) := o_ic rfl
theorem w343_2 : P_rl0 M_L_bestOrder 2 3 0 := o_rl0 rfl
theorem w343_3 : P_il1 M_L_bestOrder 3 4 0 := o_il1 rfl
theorem w343_4 : P_il2 M_L_bestOrder 4 5 0 := o_il2 rfl
theorem w343_5 : P_ca3 M_L_bestOrder 5 8 1 140 := o_ca3 rfl
theorem w343_8 : P_i2l M_L_bestOrder 8 9 0 := o_i2l rfl
theorem w343_9 : P_lst4 M_L_bestOrder 9 10 := o_lst4 rfl
theorem w343_10 : P_go M_L_bestOrder 10 0 21 := o_go rfl
theorem w343_21 : P_ic M_L_bestOrder 21 22 0 (0) := o_ic rfl
theorem w343_22 : P_ri M_L_bestOrder 22 := o_ri rfl rfl
theorem n344 (d : Nat) (k : Int) (a0 : Nat) (a1 : Int) (a2 : Int) (a3 : Int) (a4 : Int) (a5 : Nat) (h : vmH) (Q : vmO → vmH → Prop) (hk : 4 ≤ k) : Ca d k 344 [.ref a0, .int (i32 a1), .int (i32 a2), .int (i32 a3), .int (i32 a4), .ref a5] h Q = Wp d M_L_meet 0 [.ref a0, .int (i32 a1), .int (i32 a2), .int (i32 a3), .int (i32 a4), .ref a5, vmJ] [] h Q := ca_in rfl (fun z => absurd hk (Int.not_le.mpr z)) (Nat.le_of_ble_eq_true rfl) rfl
theorem w344_0 : P_rl5 M_L_meet 0 2 0 := o_rl5 rfl
theorem w344_2 : P_ic M_L_meet 2 3 0 (0) := o_ic rfl
theorem w344_3 : P_rl0 M_L_meet 3 4 0 := o_rl0 rfl
theorem w344_4 : P_il1 M_L_meet 4 5 0 := o_il1 rfl
theorem w344_5 : P_il2 M_L_meet 5 6 0 := o_il2 rfl
theorem w344_6 : P_il3 M_L_meet 6 7 0 := o_il3 rfl
theorem w344_7 : P_il4 M_L_meet 7 9 0 := o_il4 rfl
theorem w344_9 : P_ca5 M_L_meet 9 12 1 141 := o_ca5 rfl
theorem w344_12 : P_i2l M_L_meet 12 13 0 := o_i2l rfl
theorem w344_13 : P_lst4 M_L_meet 13 14 := o_lst4 rfl
theorem w344_14 : P_go M_L_meet 14 0 25 := o_go rfl
theorem w344_25 : P_ic M_L_meet 25 26 0 (0) := o_ic rfl
theorem w344_26 : P_ri M_L_meet 26 := o_ri rfl rfl
theorem n345 (d : Nat) (k : Int) (a0 : Nat) (a1 : Int) (a2 : Nat) (h : vmH) (Q : vmO → vmH → Prop) (hk : 4 ≤ k) : Ca d k 345 [.ref a0, .int (i32 a1), .ref a2] h Q = Wp d M_L_first 0 [.ref a0, .int (i32 a1), .ref a2, vmJ] [] h Q := ca_in rfl (fun z => absurd hk (Int.not_le.mpr z)) (Nat.le_of_ble_eq_true rfl) rfl
theorem w345_0 : P_rl2 M_L_first 0 1 0 := o_rl2 rfl
theorem w345_1 : P_ic M_L_first 1 2 0 (0) := o_ic rfl
theorem w345_2 : P_rl0 M_L_first 2 3 0 := o_rl0 rfl
theorem w345_3 : P_il1 M_L_first 3 4 0 := o_il1 rfl
theorem w345_4 : P_ca2 M_L_first 4 7 1 142 := o_ca2 rfl
theorem w345_7 : P_i2l M_L_first 7 8 0 := o_i2l rfl
theorem w345_8 : P_lst4 M_L_first 8 9 := o_lst4 rfl
theorem w345_9 : P_go M_L_first 9 0 15 := o_go rfl
theorem w345_15 : P_ic M_L_first 15 16 0 (0) := o_ic rfl
theorem w345_16 : P_ri M_L_first 16 := o_ri rfl rfl
theorem n346 (d : Nat) (k : Int) (a0 : Nat) (a1 : Int) (a2 : Nat) (h : vmH) (Q : vmO → vmH → Prop) (hk : 4 ≤ k) : Ca d k 346 [.ref a0, .int (i32 a1), .ref a2] h Q = Wp d M_L_own 0 [.ref a0, .int (i32 a1), .ref a2, vmJ] [] h Q := ca_in rfl (fun z => absurd hk (Int.not_le.mpr z)) (Nat.le_of_ble_eq_true rfl) rfl
theorem w346_0 : P_rl2 M_L_own 0 1 0 := o_rl2 rfl
theorem w346_1 : P_ic M_L_own 1 2 0 (0) := o_ic rfl
theorem w346_2 : P_rl0 M_L_own 2 3 0 := o_rl0 rfl
theorem w346_3 : P_il1 M_L_own 3 4 0 := o_il1 rfl
theorem w346_4 : P_ca2 M_L_own 4 7 1 143 := o_ca2 rfl
theorem w346_7 : P_lst4 M_L_own 7 8 := o_lst4 rfl
theorem w346_8 : P_go M_L_own 8 0 14 := o_go rfl
theorem w346_14 : P_ic M_L_own 14 15 0 (0) := o_ic rfl
theorem w346_15 : P_ri M_L_own 15 := o_ri rfl rfl
theorem n347 (d : Nat) (k : Int) (a0 : Nat) (a1 : Int) (a2 : Int) (a3 : Nat) (h : vmH) (Q : vmO → vmH → Prop) (hk : 4 ≤ k) : Ca d k 347 [.ref a0, .int (i32 a1), .int (i32 a2), .ref a3] h Q = Wp d M_L_shutOff 0 [.ref a0, .int (i32 a1), .int (i32 a2), .ref a3, vmJ] [] h Q := ca_in rfl (fun z => absurd hk (Int.not_le.mpr z)) (Nat.le_of_ble_eq_true rfl) rfl
theorem w347_0 : P_rl3 M_L_shutOff 0 1 0 := o_rl3 rfl
theorem w347_1 : P_ic M_L_shutOff 1 2 0 (0) := o_ic rfl
theorem w347_2 : P_rl0 M_L_shutOff 2 3 0 := o_rl0 rfl
theorem w347_3 : P_il1 M_L_shutOff 3 4 0 := o_il1 rfl
theorem w347_4 : P_il2 M_L_shutOff 4 5 0 := o_il2 rfl
theorem w347_5 : P_ca3 M_L_shutOff 5 8 1 144 := o_ca3 rfl
theorem w347_8 : P_i2l M_L_shutOff 8 9 0 := o_i2l rfl
theorem w347_9 : P_lst4 M_L_shutOff 9 10 := o_lst4 rfl
theorem w347_10 : P_go M_L_shutOff 10 0 17 := o_go rfl
theorem w347_17 : P_ic M_L_shutOff 17 18 0 (0) := o_ic rfl
theorem w347_18 : P_ri M_L_shutOff 18 := o_ri rfl rfl
theorem n348 (d : Nat) (k : Int) (a0 : Nat) (a1 : Int) (a2 : Int) (a3 : Nat) (h : vmH) (Q : vmO → vmH → Prop) (hk : 4 ≤ k) : Ca d k 348 [.ref a0, .int (i32 a1), .int (i32 a2), .ref a3] h Q = Wp d M_L_needed 0 [.ref a0, .int (i32 a1), .int (i32 a2), .ref a3, vmJ] [] h Q := ca_in rfl (fun z => absurd hk (Int.not_le.mpr z)) (Nat.le_of_ble_eq_true rfl) rfl
theorem w348_0 : P_rl3 M_L_needed 0 1 0 := o_rl3 rfl
theorem w348_1 : P_ic M_L_needed 1 2 0 (0) := o_ic rfl
theorem w348_2 : P_rl0 M_L_needed 2 3 0 := o_rl0 rfl
theorem w348_3 : P_il1 M_L_needed 3 4 0 := o_il1 rfl
theorem w348_4 : P_il2 M_L_needed 4 5 0 := o_il2 rfl
theorem w348_5 : P_ca3 M_L_needed 5 8 1 145 := o_ca3 rfl
theorem w348_8 : P_lst4 M_L_needed 8 9 := o_lst4 rfl
theorem w348_9 : P_go M_L_needed 9 0 16 := o_go rfl
theorem w348_16 : P_ic M_L_needed 16 17 0 (0) := o_ic rfl
theorem w348_17 : P_ri M_L_needed 17 := o_ri rfl rfl
theorem n349 (d : Nat) (k : Int) (a0 : Nat) (a1 : Int) (a2 : Int) (a3 : Nat) (h : vmH) (Q : vmO → vmH → Prop) (hk : 4 ≤ k) : Ca d k 349 [.ref a0, .int (i32 a1), .int (i32 a2), .ref a3] h Q = Wp d M_L_dearest 0 [.ref a0, .int (i32 a1), .int (i32 a2), .ref a3, vmJ] [] h Q := ca_in rfl (fun z => absurd hk (Int.not_le.mpr z)) (Nat.le_of_ble_eq_true rfl) rfl
theorem w349_0 : P_rl3 M_L_dearest 0 1 0 := o_rl3 rfl
theorem w349_1 : P_ic M_L_dearest 1 2 0 (0) := o_ic rfl
theorem w349_2 : P_rl0 M_L_dearest 2 3 0 := o_rl0 rfl
theorem w349_3 : P_il1 M_L_dearest 3 4 0 := o_il1 rfl
theorem w349_4 : P_il2 M_L_dearest 4 5 0 := o_il2 rfl
theorem w349_5 : P_ca3 M_L_dearest 5 8 1 146 := o_ca3 rfl
theorem w349_8 : P_i2l M_L_dearest 8 9 0 := o_i2l rfl
theorem w349_9 : P_lst4 M_L_dearest 9 10 := o_lst4 rfl
theorem w349_10 : P_go M_L_dearest 10 0 17 := o_go rfl
theorem w349_17 : P_ic M_L_dearest 17 18 0 (0) := o_ic rfl
theorem w349_18 : P_ri M_L_dearest 18 := o_ri rfl rfl
theorem n350 (d : Nat) (k : Int) (a0 : Nat) (a1 : Int) (a2 : Int) (a3 : Int) (a4 : Nat) (h : vmH) (Q : vmO → vmH → Prop) (hk : 4 ≤ k) : Ca d k 350 [.ref a0, .int (i32 a1), .int (i32 a2), .int (i32 a3), .ref a4] h Q = Wp d M_L_soonestIn 0 [.ref a0, .int (i32 a1), .int (i32 a2), .int (i32 a3), .ref a4, vmJ] [] h Q := ca_in rfl (fun z => absurd hk (Int.not_le.mpr z)) (Nat.le_of_ble_eq_true rfl) rfl
theorem w350_0 : P_rl4 M_L_soonestIn 0 2 0 := o_rl4 rfl
theorem w350_2 : P_ic M_L_soonestIn 2 3 0 (0) := o_ic rfl
theorem w350_3 : P_rl0 M_L_soonestIn 3 4 0 := o_rl0 rfl
theorem w350_4 : P_il1 M_L_soonestIn 4 5 0 := o_il1 rfl
theorem w350_5 : P_il2 M_L_soonestIn 5 6 0 := o_il2 rfl
theorem w350_6 : P_il3 M_L_soonestIn 6 7 0 := o_il3 rfl
theorem w350_7 : P_ca4 M_L_soonestIn 7 10 1 147 := o_ca4 rfl
theorem w350_10 : P_i2l M_L_soonestIn 10 11 0 := o_i2l rfl
theorem w350_11 : P_lst4 M_L_soonestIn 11 12 := o_lst4 rfl
theorem w350_12 : P_go M_L_soonestIn 12 0 23 := o_go rfl
theorem w350_23 : P_ic M_L_soonestIn 23 24 0 (0) := o_ic rfl
theorem w350_24 : P_ri M_L_soonestIn 24 := o_ri rfl rfl
theorem n351 (d : Nat) (k : Int) (a0 : Nat) (a1 : Int) (a2 : Int) (a3 : Int) (a4 : Nat) (h : vmH) (Q : vmO → vmH → Prop) (hk : 4 ≤ k) : Ca d k 351 [.ref a0, .int (i32 a1), .int (i32 a2), .int (i32 a3), .ref a4] h Q = Wp d M_L_bestNight 0 [.ref a0, .int (i32 a1), .int (i32 a2), .int (i32 a3), .ref a4, vmJ] [] h Q := ca_in rfl (fun z => absurd hk (Int.not_le.mpr z)) (Nat.le_of_ble_eq_true rfl) rfl
theorem w351_0 : P_rl4 M_L_bestNight 0 2 0 := o_rl4 rfl
theorem w351_2 : P_ic M_L_bestNight 2 3 0 (0) := o_ic rfl
theorem w351_3 : P_rl0 M_L_bestNight 3 4 0 := o_rl0 rfl
theorem w351_4 : P_il1 M_L_bestNight 4 5 0 := o_il1 rfl
theorem w351_5 : P_il2 M_L_bestNight 5 6 0 := o_il2 rfl
theorem w351_6 : P_il3 M_L_bestNight 6 7 0 := o_il3 rfl
theorem w351_7 : P_ca4 M_L_bestNight 7 10 1 148 := o_ca4 rfl
theorem w351_10 : P_i2l M_L_bestNight 10 11 0 := o_i2l rfl
theorem w351_11 : P_lst4 M_L_bestNight 11 12 := o_lst4 rfl
theorem w351_12 : P_go M_L_bestNight 12 0 23 := o_go rfl
theorem w351_23 : P_ic M_L_bestNight 23 24 0 (0) := o_ic rfl
theorem w351_24 : P_ri M_L_bestNight 24 := o_ri rfl rfl
theorem n352 (d : Nat) (k : Int) (a0 : Nat) (a1 : Int) (a2 : Int) (a3 : Int) (a4 : Nat) (h : vmH) (Q : vmO → vmH → Prop) (hk : 4 ≤ k) : Ca d k 352 [.ref a0, .int (i32 a1), .int (i32 a2), .int (i32 a3), .ref a4] h Q = Wp d M_L_grownTo 0 [.ref a0, .int (i32 a1), .int (i32 a2), .int (i32 a3), .ref a4, vmJ] [] h Q := ca_in rfl (fun z => absurd hk (Int.not_le.mpr z)) (Nat.le_of_ble_eq_true rfl) rfl
theorem w352_0 : P_rl4 M_L_grownTo 0 2 0 := o_rl4 rfl
theorem w352_2 : P_ic M_L_grownTo 2 3 0 (0) := o_ic rfl
theorem w352_3 : P_rl0 M_L_grownTo 3 4 0 := o_rl0 rfl
theorem w352_4 : P_il1 M_L_grownTo 4 5 0 := o_il1 rfl
theorem w352_5 : P_il2 M_L_grownTo 5 6 0 := o_il2 rfl
theorem w352_6 : P_il3 M_L_grownTo 6 7 0 := o_il3 rfl
theorem w352_7 : P_ca4 M_L_grownTo 7 10 1 149 := o_ca4 rfl
theorem w352_10 : P_i2l M_L_grownTo 10 11 0 := o_i2l rfl
theorem w352_11 : P_lst4 M_L_grownTo 11 12 := o_lst4 rfl
theorem w352_12 : P_go M_L_grownTo 12 0 23 := o_go rfl
theorem w352_23 : P_ic M_L_grownTo 23 24 0 (0) := o_ic rfl
theorem w352_24 : P_ri M_L_grownTo 24 := o_ri rfl rfl
theorem n353 (d : Nat) (k : Int) (a0 : Nat) (a1 : Int) (a2 : Int) (a3 : Int) (a4 : Nat) (h : vmH) (Q : vmO → vmH → Prop) (hk : 4 ≤ k) : Ca d k 353 [.ref a0, .int (i32 a1), .int (i32 a2), .int (i32 a3), .ref a4] h Q = Wp d M_L_walks 0 [.ref a0, .int (i32 a1), .int (i32 a2), .int (i32 a3), .ref a4, vmJ] [] h Q := ca_in rfl (fun z => absurd hk (Int.not_le.mpr z)) (Nat.le_of_ble_eq_true rfl) rfl
theorem w353_0 : P_rl4 M_L_walks 0 2 0 := o_rl4 rfl
theorem w353_2 : P_ic M_L_walks 2 3 0 (0) := o_ic rfl
theorem w353_3 : P_rl0 M_L_walks 3 4 0 := o_rl0 rfl
theorem w353_4 : P_il1 M_L_walks 4 5 0 := o_il1 rfl
theorem w353_5 : P_il2 M_L_walks 5 6 0 := o_il2 rfl
theorem w353_6 : P_il3 M_L_walks 6 7 0 := o_il3 rfl
theorem w353_7 : P_ca4 M_L_walks 7 10 1 150 := o_ca4 rfl
theorem w353_10 : P_lst4 M_L_walks 10 11 := o_lst4 rfl
theorem w353_11 : P_go M_L_walks 11 0 22 := o_go rfl
theorem w353_22 : P_ic M_L_walks 22 23 0 (0) := o_ic rfl
theorem w353_23 : P_ri M_L_walks 23 := o_ri rfl rfl
theorem n354 (d : Nat) (k : Int) (a0 : Nat) (a1 : Int) (a2 : Int) (a3 : Int) (a4 : Nat) (h : vmH) (Q : vmO → vmH → Prop) (hk : 4 ≤ k) : Ca d k 354 [.ref a0, .int (i32 a1), .int (i32 a2), .int (i32 a3), .ref a4] h Q = Wp d M_L_been 0 [.ref a0, .int (i32 a1), .int (i32 a2), .int (i32 a3), .ref a4, vmJ] [] h Q := ca_in rfl (fun z => absurd hk (Int.not_le.mpr z)) (Nat.le_of_ble_eq_true rfl) rfl
theorem w354_0 : P_rl4 M_L_been 0 2 0 := o_rl4 rfl
theorem w354_2 : P_ic M_L_been 2 3 0 (0) := o_ic rfl
theorem w354_3 : P_rl0 M_L_been 3 4 0 := o_rl0 rfl
theorem w354_4 : P_il1 M_L_been 4 5 0 := o_il1 rfl
theorem w354_5 : P_il2 M_L_been 5 6 0 := o_il2 rfl
theorem w354_6 : P_il3 M_L_been 6 7 0 := o_il3 rfl
theorem w354_7 : P_ca4 M_L_been 7 10 1 151 := o_ca4 rfl
theorem w354_10 : P_lst4 M_L_been 10 11 := o_lst4 rfl
theorem w354_11 : P_go M_L_been 11 0 22 := o_go rfl
theorem w354_22 : P_ic M_L_been 22 23 0 (0) := o_ic rfl
theorem w354_23 : P_ri M_L_been 23 := o_ri rfl rfl
theorem n355 (d : Nat) (k : Int) (a0 : Nat) (a1 : Int) (a2 : Int) (a3 : Int) (a4 : Int) (a5 : Nat) (h : vmH) (Q : vmO → vmH → Prop) (hk : 4 ≤ k) : Ca d k 355 [.ref a0, .int (i32 a1), .int (i32 a2), .int (i32 a3), .int (i32 a4), .ref a5] h Q = Wp d M_L_through 0 [.ref a0, .int (i32 a1), .int (i32 a2), .int (i32 a3), .int (i32 a4), .ref a5, vmJ] [] h Q := ca_in rfl (fun z => absurd hk (Int.not_le.mpr z)) (Nat.le_of_ble_eq_true rfl) rfl
theorem w355_0 : P_rl5 M_L_through 0 2 0 := o_rl5 rfl
theorem w355_2 : P_ic M_L_through 2 3 0 (0) := o_ic rfl
theorem w355_3 : P_rl0 M_L_through 3 4 0 := o_rl0 rfl
theorem w355_4 : P_il1 M_L_through 4 5 0 := o_il1 rfl
theorem w355_5 : P_il2 M_L_through 5 6 0 := o_il2 rfl
theorem w355_6 : P_il3 M_L_through 6 7 0 := o_il3 rfl
theorem w355_7 : P_il4 M_L_through 7 9 0 := o_il4 rfl
theorem w355_9 : P_ca5 M_L_through 9 12 1 152 := o_ca5 rfl
theorem w355_12 : P_lst4 M_L_through 12 13 := o_lst4 rfl
theorem w355_13 : P_go M_L_through 13 0 24 := o_go rfl
theorem w355_24 : P_ic M_L_through 24 25 0 (0) := o_ic rfl
theorem w355_25 : P_ri M_L_through 25 := o_ri rfl rfl
theorem n356 (d : Nat) (k : Int) (a0 : Nat) (a1 : Int) (a2 : Int) (a3 : Int) (a4 : Nat) (h : vmH) (Q : vmO → vmH → Prop) (hk : 4 ≤ k) : Ca d k 356 [.ref a0, .int (i32 a1), .int (i32 a2), .int (i32 a3), .ref a4] h Q = Wp d M_L_tells 0 [.ref a0, .int (i32 a1), .int (i32 a2), .int (i32 a3), .ref a4, vmJ] [] h Q := ca_in rfl (fun z => absurd hk (Int.not_le.mpr z)) (Nat.le_of_ble_eq_true rfl) rfl
theorem w356_0 : P_rl4 M_L_tells 0 2 0 := o_rl4 rfl
theorem w356_2 : P_ic M_L_tells 2 3 0 (0) := o_ic rfl
theorem w356_3 : P_rl0 M_L_tells 3 4 0 := o_rl0 rfl
theorem w356_4 : P_il1 M_L_tells 4 5 0 := o_il1 rfl
theorem w356_5 : P_il2 M_L_tells 5 6 0 := o_il2 rfl
theorem w356_6 : P_il3 M_L_tells 6 7 0 := o_il3 rfl
theorem w356_7 : P_ca4 M_L_tells 7 10 1 153 := o_ca4 rfl
theorem w356_10 : P_i2l M_L_tells 10 11 0 := o_i2l rfl
theorem w356_11 : P_lst4 M_L_tells 11 12 := o_lst4 rfl
theorem w356_12 : P_go M_L_tells 12 0 23 := o_go rfl
theorem w356_23 : P_ic M_L_tells 23 24 0 (0) := o_ic rfl
theorem w356_24 : P_ri M_L_tells 24 := o_ri rfl rfl
theorem n357 (d : Nat) (k : Int) (a0 : Nat) (a1 : Int) (a2 : Int) (a3 : Nat) (h : vmH) (Q : vmO → vmH → Prop) (hk : 4 ≤ k) : Ca d k 357 [.ref a0, .int (i32 a1), .int (i32 a2), .ref a3] h Q = Wp d M_L_maybe 0 [.ref a0, .int (i32 a1), .int (i32 a2), .ref a3, vmJ] [] h Q := ca_in rfl (fun z => absurd hk (Int.not_le.mpr z)) (Nat.le_of_ble_eq_true rfl) rfl
theorem w357_0 : P_rl3 M_L_maybe 0 1 0 := o_rl3 rfl
theorem w357_1 : P_ic M_L_maybe 1 2 0 (0) := o_ic rfl
theorem w357_2 : P_rl0 M_L_maybe 2 3 0 := o_rl0 rfl
theorem w357_3 : P_il1 M_L_maybe 3 4 0 := o_il1 rfl
theorem w357_4 : P_il2 M_L_maybe 4 5 0 := o_il2 rfl
theorem w357_5 : P_ca3 M_L_maybe 5 8 1 154 := o_ca3 rfl
theorem w357_8 : P_lst4 M_L_maybe 8 9 := o_lst4 rfl
theorem w357_9 : P_go M_L_maybe 9 0 20 := o_go rfl
theorem w357_20 : P_ic M_L_maybe 20 21 0 (0) := o_ic rfl
theorem w357_21 : P_ri M_L_maybe 21 := o_ri rfl rfl
theorem n358 (d : Nat) (k : Int) (a0 : Nat) (a1 : Int) (a2 : Int) (a3 : Int) (h : vmH) (Q : vmO → vmH → Prop) (hk : 4 ≤ k) : Ca d k 358 [.ref a0, .int (i32 a1), .int (i32 a2), .int (i32 a3)] h Q = Wp d M_L_tray 0 [.ref a0, .int (i32 a1), .int (i32 a2), .int (i32 a3), vmJ] [] h Q := ca_in rfl (fun z => absurd hk (Int.not_le.mpr z)) (Nat.le_of_ble_eq_true rfl) rfl
theorem w358_0 : P_rl0 M_L_tray 0 1 0 := o_rl0 rfl
theorem w358_1 : P_il1 M_L_tray 1 2 0 := o_il1 rfl
theorem w358_2 : P_il2 M_L_tray 2 3 0 := o_il2 rfl
theorem w358_3 : P_il3 M_L_tray 3 4 0 := o_il3 rfl
theorem w358_4 : P_ca4 M_L_tray 4 7 1 156 := o_ca4 rfl
theorem w358_7 : P_go M_L_tray 7 0 18 := o_go rfl
theorem w358_18 : P_ic M_L_tray 18 19 0 (0) := o_ic rfl
theorem w358_19 : P_ri M_L_tray 19 := o_ri rfl rfl
theorem n359 (d : Nat) (k : Int) (a0 : Nat) (a1 : Int) (a2 : Int) (a3 : Int64) (a4 : Nat) (h : vmH) (Q : vmO → vmH → Prop) (hk : 4 ≤ k) : Ca d k 359 [.ref a0, .int (i32 a1), .int (i32 a2), .long a3, .ref a4] h Q = Wp d M_L_write 0 [.ref a0, .int (i32 a1), .int (i32 a2), .long a3, vmJ, .ref a4, vmJ] [] h Q := ca_in rfl (fun z => absurd hk (Int.not_le.mpr z)) (Nat.le_of_ble_eq_true rfl) rfl
theorem w359_0 : P_rl5 M_L_write 0 2 0 := o_rl5 rfl
theorem w359_2 : P_ic M_L_write 2 3 0 (0) := o_ic rfl
theorem w359_3 : P_rl0 M_L_write 3 4 0 := o_rl0 rfl
theorem w359_4 : P_il1 M_L_write 4 5 0 := o_il1 rfl
theorem w359_5 : P_il2 M_L_write 5 6 0 := o_il2 rfl
theorem w359_6 : P_ll3 M_L_write 6 7 0 := o_ll3 rfl
theorem w359_7 : P_ca4 M_L_write 7 10 1 157 := o_ca4 rfl
theorem w359_10 : P_lst4 M_L_write 10 11 := o_lst4 rfl
theorem w359_11 : P_go M_L_write 11 0 26 := o_go rfl
theorem w359_26 : P_ic M_L_write 26 27 0 (0) := o_ic rfl
theorem w359_27 : P_ri M_L_write 27 := o_ri rfl rfl
theorem n360 (d : Nat) (k : Int) (a0 : Nat) (a1 : Int) (a2 : Nat) (h : vmH) (Q : vmO → vmH → Prop) (hk : 4 ≤ k) : Ca d k 360 [.ref a0, .int (i32 a1), .ref a2] h Q = Wp d M_L_copy 0 [.ref a0, .int (i32 a1), .ref a2, vmJ] [] h Q := ca_in rfl (fun z => absurd hk (Int.not_le.mpr z)) (Nat.le_of_ble_eq_true rfl) rfl
theorem w360_0 : P_rl2 M_L_copy 0 1 0 := o_rl2 rfl
theorem w360_1 : P_ic M_L_copy 1 2 0 (0) := o_ic rfl
theorem w360_2 : P_rl0 M_L_copy 2 3 0 := o_rl0 rfl
theorem w360_3 : P_il1 M_L_copy 3 4 0 := o_il1 rfl
theorem w360_4 : P_ca2 M_L_copy 4 7 1 159 := o_ca2 rfl
theorem w360_7 : P_i2l M_L_copy 7 8 0 := o_i2l rfl
theorem w360_8 : P_lst4 M_L_copy 8 9 := o_lst4 rfl
theorem w360_9 : P_go M_L_copy 9 0 18 := o_go rfl
theorem w360_18 : P_ic M_L_copy 18 19 0 (0) := o_ic rfl
theorem w360_19 : P_ri M_L_copy 19 := o_ri rfl rfl
theorem n361 (d : Nat) (k : Int) (a0 : Nat) (a1 : Int) (h : vmH) (Q : vmO → vmH → Prop) (hk : 4 ≤ k) : Ca d k 361 [.ref a0, .int (i32 a1)] h Q = Wp d M_L_image 0 [.ref a0, .int (i32 a1), vmJ] [] h Q := ca_in rfl (fun z => absurd hk (Int.not_le.mpr z)) (Nat.le_of_ble_eq_true rfl) rfl
theorem w361_0 : P_rl0 M_L_image 0 1 0 := o_rl0 rfl
theorem w361_1 : P_il1 M_L_image 1 2 0 := o_il1 rfl
theorem w361_2 : P_ca2 M_L_image 2 5 1 160 := o_ca2 rfl
theorem w361_5 : P_go M_L_image 5 0 11 := o_go rfl
theorem w361_11 : P_ic M_L_image 11 12 0 (0) := o_ic rfl
theorem w361_12 : P_ri M_L_image 12 := o_ri rfl rfl
theorem n362 (d : Nat) (k : Int) (a0 : Nat) (a1 : Int) (h : vmH) (Q : vmO → vmH → Prop) (hk : 4 ≤ k) : Ca d k 362 [.ref a0, .int (i32 a1)] h Q = Wp d M_L_restore 0 [.ref a0, .int (i32 a1), vmJ] [] h Q := ca_in rfl (fun z => absurd hk (Int.not_le.mpr z)) (Nat.le_of_ble_eq_true rfl) rfl
theorem w362_0 : P_rl0 M_L_restore 0 1 0 := o_rl0 rfl
theorem w362_1 : P_il1 M_L_restore 1 2 0 := o_il1 rfl
theorem w362_2 : P_ca2 M_L_restore 2 5 1 161 := o_ca2 rfl
theorem w362_5 : P_go M_L_restore 5 0 14 := o_go rfl
theorem w362_14 : P_ic M_L_restore 14 15 0 (0) := o_ic rfl
theorem w362_15 : P_ri M_L_restore 15 := o_ri rfl rfl
