/-! ===== Arrays.fill of longs; Strings ===== -/
theorem c319 {d : Nat} {k : Int} {t o n : Nat} {v : Int64} {T : Tt} {σ : St} {Q : vmO → vmH → Prop} (hk : 4 ≤ k) (hs : sh (A t o) = (0, 1, n, t, o)) : Ca d k 319 [.ref (A t o), .long v] (E T σ) Q = Q (.inl none) (E T (upA σ t o (fil (σ t o) n v.toInt))) := by
  have hn := sh_ln hs
  have ha : A t o < 406 := sh_lt (by rw [hs]; show (0 : Nat) ≠ 9; decide)
  have loop : ∀ (m : Nat) (z : Int), 0 ≤ z → z + m = n → Wp d M_J7_fill_d0a16 6 [.ref (A t o), .long v, vmJ, .int (i32 z), .int (i32 n)] [] (E T (upA σ t o (fil (σ t o) z v.toInt))) Q = Q (.inl none) (E T (upA σ t o (fil (σ t o) n v.toInt))) := by
    intro m
    induction m with
    | zero =>
      intro z h0 h1
      have hz : z = n := by omega
      subst hz
      simp (disch := (first | assumption | omega | exact Nat.le_of_ble_eq_true rfl | rfl)) only [w319_0, w319_1, w319_2, w319_4, w319_7, w319_9, w319_12, w319_13, w319_14, w319_16, w319_19, w319_22, Ko_n, Ko_v, vX_i, vX_r, vX_l, vX_j, reduceIte, w319_6, Int.le_refl]
    | succ m ih =>
      intro z h0 h1
      rw [w319_6]
      simp (disch := (first | assumption | omega | exact Nat.le_of_ble_eq_true rfl | rfl)) only [w319_0, w319_1, w319_2, w319_4, w319_7, w319_9, w319_12, w319_13, w319_14, w319_16, w319_19, w319_22, Ko_n, Ko_v, vX_i, vX_r, vX_l, vX_j, reduceIte, show ¬ (n : Int) ≤ z by omega]
      rw [g_last (n := n) rfl (by omega) _ _ _ _ _ _ _ _ _ hs h0 (by omega), upA_upA, upA_s, fil_fu h0]
      simp (disch := (first | assumption | omega | exact Nat.le_of_ble_eq_true rfl | rfl)) only [w319_0, w319_1, w319_2, w319_4, w319_7, w319_9, w319_12, w319_13, w319_14, w319_16, w319_19, w319_22, Ko_n, Ko_v, vX_i, vX_r, vX_l, vX_j, reduceIte]
      exact ih (z + 1) (by omega) (by omega)
  rw [n319 _ _ _ _ _ _ hk]
  simp (disch := (first | assumption | omega | exact Nat.le_of_ble_eq_true rfl | rfl)) only [w319_0, w319_1, w319_2, w319_4, w319_7, w319_9, w319_12, w319_13, w319_14, w319_16, w319_19, w319_22, Ko_n, Ko_v, vX_i, vX_r, vX_l, vX_j, reduceIte]
  rw [g_alen (n := n) (ty := 1) rfl _ _ _ _ _ _ _ hs]
  simp (disch := (first | assumption | omega | exact Nat.le_of_ble_eq_true rfl | rfl)) only [w319_0, w319_1, w319_2, w319_4, w319_7, w319_9, w319_12, w319_13, w319_14, w319_16, w319_19, w319_22, Ko_n, Ko_v, vX_i, vX_r, vX_l, vX_j, reduceIte]
  have := loop n 0 (by omega) (by omega)
  rw [fil_0, upA_self] at this
  exact this
theorem E_str {T : Tt} {σ : St} {i : Nat} (hi : i < 22) : (E T σ).2.2.2 (1000000 + 2 * i) = some (.inr (20, [.ref (1000000 + 2 * i + 1), .int 0])) := by
  show (if 1000000 + 2 * i < 406 then _ else if 1000000 + 2 * i < 1000000 then _ else xt T (1000000 + 2 * i)) = _
  rw [if_neg (by omega), if_neg (by omega)]
  unfold xt
  have hl : vmTxs.length = 22 := rfl
  rw [if_pos (by omega), if_pos (by omega), if_pos (by omega)]
theorem E_byt {T : Tt} {σ : St} {i : Nat} (hi : i < 22) : (E T σ).2.2.2 (1000000 + 2 * i + 1) = some (.inl (5, (vmByt i).length, .inl fun j => (vmByt i).getD j 0)) := by
  show (if 1000000 + 2 * i + 1 < 406 then _ else if 1000000 + 2 * i + 1 < 1000000 then _ else xt T (1000000 + 2 * i + 1)) = _
  rw [if_neg (by omega), if_neg (by omega)]
  unfold xt
  have hl : vmTxs.length = 22 := rfl
  rw [if_pos (by omega), if_pos (by omega), if_neg (by omega), show (1000000 + 2 * i + 1 - 1000000) / 2 = i by omega]
theorem recv_str {y : vmM} {T : Tt} {σ : St} {i : Nat} {as : List Value} (hk : y.2.2.2.2.1 = 20) (h : i < 22) : vmRecv y (E T σ) (.ref (1000000 + 2 * i) :: as) = true := by
  unfold vmRecv
  dsimp only
  rw [E_str h]
  dsimp only
  rw [hk]
  rfl
theorem g_val {y : vmM} {pc nx d i : Nat} {L st : List Value} {T : Tt} {σ : St} {Q : vmO → vmH → Prop} (ht : vmTab y pc = some (15, nx, 0, 20, 0, [])) (hi : i < 22) : Wp d y pc L (.ref (1000000 + 2 * i) :: st) (E T σ) Q = Wp d y nx L (.ref (1000000 + 2 * i + 1) :: st) (E T σ) Q := by
  refine wp_step ht (fun z => by cases z) (fun z => by cases z) (fun z => by cases z) ?_
  show vmO15 nx 20 0 L (.ref (1000000 + 2 * i) :: st) (E T σ) = _
  unfold vmO15
  dsimp only
  rw [E_str hi]
  rfl
theorem g_cod {y : vmM} {pc nx d i : Nat} {L st : List Value} {T : Tt} {σ : St} {Q : vmO → vmH → Prop} (ht : vmTab y pc = some (15, nx, 0, 20, 1, [])) (hi : i < 22) : Wp d y pc L (.ref (1000000 + 2 * i) :: st) (E T σ) Q = Wp d y nx L (.int (i32 0) :: st) (E T σ) Q := by
  refine wp_step ht (fun z => by cases z) (fun z => by cases z) (fun z => by cases z) ?_
  show vmO15 nx 20 1 L (.ref (1000000 + 2 * i) :: st) (E T σ) = _
  unfold vmO15
  dsimp only
  rw [E_str hi]
  rfl
theorem g_bln {y : vmM} {pc nx d i : Nat} {L st : List Value} {T : Tt} {σ : St} {Q : vmO → vmH → Prop} (ht : vmTab y pc = some (17, nx, 0, 0, 0, [])) (hi : i < 22) : Wp d y pc L (.ref (1000000 + 2 * i + 1) :: st) (E T σ) Q = Wp d y nx L (.int (i32 (vmByt i).length) :: st) (E T σ) Q := by
  refine wp_step ht (fun z => by cases z) (fun z => by cases z) (fun z => by cases z) ?_
  show vmO17 nx L (.ref (1000000 + 2 * i + 1) :: st) (E T σ) = _
  unfold vmO17
  dsimp only
  rw [E_byt hi]
  show some (nx, L, Value.int (Int32.ofNat (vmByt i).length) :: st, E T σ) = _
  rw [← Int32.ofInt_eq_ofNat]
  rfl
/-- a byte of a text -/
def tb (i : Nat) (z : Int) : Int := ((vmByt i).getD z.toNat 0).toInt
theorem tb_ok : ∀ i, i < 22 → (vmByt i).length < 20 ∧ 0 < (vmByt i).length ∧ (vmByt i).all (fun x => decide (0 ≤ x.toInt ∧ x.toInt < 128)) = true := by decide +kernel
theorem tb_in {i : Nat} (hi : i < 22) (z : Int) : 0 ≤ tb i z ∧ tb i z < 128 := by
  unfold tb
  rw [List.getD_eq_getElem?_getD]
  cases h : (vmByt i)[z.toNat]? with
  | none => decide
  | some x =>
    have := List.all_eq_true.mp (tb_ok i hi).2.2 x (List.mem_of_getElem? h)
    exact of_decide_eq_true this
theorem g_byt {y : vmM} {pc nx d i : Nat} {z : Int} {L st : List Value} {T : Tt} {σ : St} {Q : vmO → vmH → Prop} (ht : vmTab y pc = some (18, nx, 0, 0, 2, [])) (hi : i < 22) (h0 : 0 ≤ z) (h1 : z < (vmByt i).length) : Wp d y pc L (.int (i32 z) :: .ref (1000000 + 2 * i + 1) :: st) (E T σ) Q = Wp d y nx L (.int (i32 (tb i z)) :: st) (E T σ) Q := by
  refine wp_step ht (fun z => by cases z) (fun z => by cases z) (fun z => by cases z) ?_
  show vmO18 nx 2 L (.int (i32 z) :: .ref (1000000 + 2 * i + 1) :: st) (E T σ) = _
  unfold vmO18
  dsimp only
  rw [E_byt hi]
  have hl := (tb_ok i hi).1
  have hc := i32_cl h0 (by omega : z < 2147483648)
  have hv : vmLd 2 (.inl (5, (vmByt i).length, .inl fun j => (vmByt i).getD j 0)) (i32 z) = some (.int (i32 (tb i z))) := by
    show (if vmIn (i32 z) (vmByt i).length = true then _ else none) = _
    rw [if_pos (i32_in h0 h1 (by omega))]
    unfold tb
    rw [i32_toInt, show z.toNat = (i32 z).toNatClampNeg by omega]
  show (match vmLd 2 _ (i32 z) with
    | some v => some (nx, L, v :: st, E T σ)
    | none => none) = _
  rw [hv]
theorem o_rb {y : vmM} {pc nx d : Nat} {L : List Value} {h : vmH} {Q : vmO → vmH → Prop} (ht : vmTab y pc = some (22, nx, 0, 0, 1, [])) (hy : y.2.2.2.1 = some .byte) : Wp d y pc L [.int (i32 0)] h Q = Q (.inl (some (.int (i32 0)))) h := by
  refine wp_ret ht rfl ?_
  show (match y.2.2.2.1 with
    | some ty => if narrow ty (Value.int (i32 0)) = Value.int (i32 0) then some ((.inl (some (Value.int (i32 0))) : vmO), h) else none
    | none => none) = _
  rw [hy]
  dsimp only
  rw [if_pos (by decide)]
theorem c313 {d i : Nat} {k : Int} {T : Tt} {σ : St} {Q : vmO → vmH → Prop} (hi : i < 22) : Ca d k 313 [.ref (1000000 + 2 * i)] (E T σ) Q = Q (.inl (some (.int (i32 1)))) (E T σ) := by
  rw [ca_in (y := M_J0_isLatin1_aae02) (L := [.ref (1000000 + 2 * i)]) rfl (fun _ => recv_str rfl hi) (Nat.le_of_ble_eq_true rfl) rfl]
  simp (disch := (first | assumption | omega | exact Nat.le_of_ble_eq_true rfl | rfl)) only [w313_0, w313_3, w313_6, w313_10, w313_13, w313_14, w313_17, w313_18, Ko_n, Ko_v, vX_i, vX_r, vX_l, vX_j, reduceIte, Int.reduceEq]
  rw [g_cod rfl hi]
  simp (disch := (first | assumption | omega | exact Nat.le_of_ble_eq_true rfl | rfl)) only [w313_0, w313_3, w313_6, w313_10, w313_13, w313_14, w313_17, w313_18, Ko_n, Ko_v, vX_i, vX_r, vX_l, vX_j, reduceIte, not_true]
theorem c312 {d i : Nat} {k : Int} {T : Tt} {σ : St} {Q : vmO → vmH → Prop} (hi : i < 22) : Ca d k 312 [.ref (1000000 + 2 * i)] (E T σ) Q = Q (.inl (some (.int (i32 0)))) (E T σ) := by
  rw [ca_in (y := M_J0_coder_7d493) (L := [.ref (1000000 + 2 * i)]) rfl (fun _ => recv_str rfl hi) (Nat.le_of_ble_eq_true rfl) rfl]
  simp (disch := (first | assumption | omega | exact Nat.le_of_ble_eq_true rfl | rfl)) only [w312_0, w312_3, w312_6, w312_10, w312_13, Ko_n, Ko_v, vX_i, vX_r, vX_l, vX_j, reduceIte, Int.reduceEq]
  rw [g_cod rfl hi]
  simp (disch := (first | assumption | omega | exact Nat.le_of_ble_eq_true rfl | rfl)) only [w312_0, w312_3, w312_6, w312_10, w312_13, Ko_n, Ko_v, vX_i, vX_r, vX_l, vX_j, reduceIte, not_true]
  rw [o_rb rfl rfl]
theorem sr_0 {u : Int} (h0 : -2147483648 ≤ u) (h1 : u < 2147483648) : sr u 0 = u := by
  unfold sr
  rw [show (i32 0 &&& 31) = 0 by decide]
  have : i32 u >>> (0 : Int32) = i32 u := by
    apply Int32.toBitVec_inj.1
    rw [Int32.toBitVec_shiftRight]
    show (i32 u).toBitVec.sshiftRight ((0 : Int32).toBitVec.smod 32).toNat = _
    rw [show ((0 : Int32).toBitVec.smod 32).toNat = 0 by decide, BitVec.sshiftRight_zero]
  rw [this, i32_i h0 h1]
theorem c308 {d i : Nat} {k : Int} {T : Tt} {σ : St} {Q : vmO → vmH → Prop} (hi : i < 22) : Ca (d + 1) k 308 [.ref (1000000 + 2 * i)] (E T σ) Q = Q (.inl (some (.int (i32 (vmByt i).length)))) (E T σ) := by
  have hl := (tb_ok i hi).1
  rw [ca_in (y := M_J0_length_8abf5) (L := [.ref (1000000 + 2 * i)]) rfl (fun _ => recv_str rfl hi) (Nat.le_of_ble_eq_true rfl) rfl]
  simp (disch := (first | assumption | omega | exact Nat.le_of_ble_eq_true rfl | rfl)) only [w308_0, w308_5, w308_6, w308_9, w308_10, Ko_n, Ko_v, vX_i, vX_r, vX_l, vX_j, reduceIte]
  rw [g_val rfl hi, g_bln rfl hi]
  simp (disch := (first | assumption | omega | exact Nat.le_of_ble_eq_true rfl | rfl)) only [w308_0, w308_5, w308_6, w308_9, w308_10, Ko_n, Ko_v, vX_i, vX_r, vX_l, vX_j, reduceIte, c312 hi]
  rw [sr_0 (by omega) (by omega)]
theorem c314 {d : Nat} {k u v : Int} {T : Tt} {σ : St} {Q : vmO → vmH → Prop} (hk : 4 ≤ k) (h0 : 0 ≤ u) (h1 : u < v) (h2 : v < 1000) : Ca (d + 1) k 314 [.int (i32 u), .int (i32 v)] (E T σ) Q = Q (.inl none) (E T σ) := by
  rw [n314 _ _ _ _ _ _ hk]
  simp (disch := (first | assumption | omega | exact Nat.le_of_ble_eq_true rfl | rfl)) only [w314_0, w314_1, w314_2, w314_5, w314_8, w314_9, Ko_n, Ko_v, vX_i, vX_r, vX_l, vX_j, reduceIte]
  rw [n321 _ _ _ _ _ _ _ (by omega)]
  simp (disch := (first | assumption | omega | exact Nat.le_of_ble_eq_true rfl | rfl)) only [w314_0, w314_1, w314_2, w314_5, w314_8, w314_9, w321_0, w321_1, w321_4, w321_5, w321_6, w321_9, w321_10, w321_11, w321_16, w321_17, Ko_n, Ko_v, vX_i, vX_r, vX_l, vX_j, reduceIte, h1, show ¬ u < 0 by omega]
theorem an_255 : ∀ n : Fin 128, an (n.val : Int) 255 = n.val := by decide
theorem c315 {d i : Nat} {k z : Int} {T : Tt} {σ : St} {Q : vmO → vmH → Prop} (hk : 4 ≤ k) (hi : i < 22) (h0 : 0 ≤ z) (h1 : z < (vmByt i).length) : Ca (d + 2) k 315 [.ref (1000000 + 2 * i + 1), .int (i32 z)] (E T σ) Q = Q (.inl (some (.int (i32 (tb i z))))) (E T σ) := by
  have hl := (tb_ok i hi).1
  have ht := tb_in hi z
  have ha := an_255 ⟨(tb i z).toNat, by omega⟩
  dsimp only at ha
  rw [show (((tb i z).toNat : Nat) : Int) = tb i z by omega] at ha
  rw [n315 _ _ _ _ _ _ hk]
  simp (disch := (first | assumption | omega | exact Nat.le_of_ble_eq_true rfl | rfl)) only [w315_0, w315_1, w315_3, w315_6, w315_7, w315_9, w315_12, w315_13, w315_14, Ko_n, Ko_v, vX_i, vX_r, vX_l, vX_j, reduceIte]
  rw [g_bln rfl hi]
  simp (disch := (first | assumption | omega | exact Nat.le_of_ble_eq_true rfl | rfl)) only [w315_3]
  rw [c314 (by omega) h0 h1 (by omega)]
  simp (disch := (first | assumption | omega | exact Nat.le_of_ble_eq_true rfl | rfl)) only [w315_0, w315_1, w315_3, w315_6, w315_7, w315_9, w315_12, w315_13, w315_14, Ko_n, Ko_v, vX_i, vX_r, vX_l, vX_j, reduceIte]
  rw [g_byt rfl hi h0 h1]
  simp (disch := (first | assumption | omega | exact Nat.le_of_ble_eq_true rfl | rfl)) only [w315_0, w315_1, w315_3, w315_6, w315_7, w315_9, w315_12, w315_13, w315_14, Ko_n, Ko_v, vX_i, vX_r, vX_l, vX_j, reduceIte, ha]
theorem c309 {d i : Nat} {k z : Int} {T : Tt} {σ : St} {Q : vmO → vmH → Prop} (hi : i < 22) (h0 : 0 ≤ z) (h1 : z < (vmByt i).length) : Ca (d + 3) k 309 [.ref (1000000 + 2 * i), .int (i32 z)] (E T σ) Q = Q (.inl (some (.int (i32 (tb i z))))) (E T σ) := by
  have ht := tb_in hi z
  rw [ca_in (y := M_J0_charAt_5068e) (L := [.ref (1000000 + 2 * i), .int (i32 z)]) rfl (fun _ => recv_str rfl hi) (Nat.le_of_ble_eq_true rfl) rfl]
  simp (disch := (first | assumption | omega | exact Nat.le_of_ble_eq_true rfl | rfl)) only [w309_0, w309_1, w309_4, w309_7, w309_11, w309_12, w309_15, w309_16, w309_20, Ko_n, Ko_v, vX_i, vX_r, vX_l, vX_j, reduceIte, c313 hi, Int.reduceEq]
  rw [g_val rfl hi]
  simp (disch := (first | assumption | omega | exact Nat.le_of_ble_eq_true rfl | rfl)) only [w309_11, w309_12]
  rw [c315 (by omega) hi h0 h1]
  simp (disch := (first | assumption | omega | exact Nat.le_of_ble_eq_true rfl | rfl)) only [w309_0, w309_1, w309_4, w309_7, w309_11, w309_12, w309_15, w309_16, w309_20, Ko_n, Ko_v, vX_i, vX_r, vX_l, vX_j, reduceIte]
