/-! ===== Long.bitCount ===== -/
def b1 (x : Int64) : Int64 := x - (lu x 1 &&& i64 6148914691236517205)
def b2 (x : Int64) : Int64 := (x &&& i64 3689348814741910323) + (lu x 2 &&& i64 3689348814741910323)
def b3 (x : Int64) : Int64 := (x + lu x 4) &&& i64 1085102592571150095
def bc (x : Int64) : Int := an ((b3 (b2 (b1 x)) + lu (b3 (b2 (b1 x))) 8 + lu (b3 (b2 (b1 x)) + lu (b3 (b2 (b1 x))) 8) 16) + lu (b3 (b2 (b1 x)) + lu (b3 (b2 (b1 x))) 8 + lu (b3 (b2 (b1 x)) + lu (b3 (b2 (b1 x))) 8) 16) 32).toInt 127
theorem c307r {d : Nat} {k : Int} {x : Int64} {h : vmH} {Q : vmO → vmH → Prop} (hk : 4 ≤ k) : Ca d k 307 [.long x] h Q = Q (.inl (some (.int (i32 (bc x))))) h := by
  rw [n307 _ _ _ _ _ hk]
  simp (disch := (first | assumption | omega | exact Nat.le_of_ble_eq_true rfl | rfl)) only [w307_0, w307_1, w307_2, w307_3, w307_4, w307_7, w307_8, w307_9, w307_10, w307_11, w307_14, w307_15, w307_16, w307_17, w307_18, w307_21, w307_22, w307_23, w307_24, w307_25, w307_26, w307_27, w307_28, w307_29, w307_32, w307_33, w307_34, w307_35, w307_36, w307_38, w307_39, w307_40, w307_41, w307_42, w307_43, w307_45, w307_46, w307_47, w307_48, w307_49, w307_50, w307_52, w307_53, w307_54, w307_55, w307_56, w307_57, w307_59, w307_60, Ko_n, Ko_v, vX_i, vX_r, vX_l, vX_j, reduceIte]
  rfl
def tn (x : Int64) : Nat := x.toBitVec.toNat
theorem tn_add {x y : Int64} : tn (x + y) = (tn x + tn y) % 18446744073709551616 := BitVec.toNat_add _ _
theorem tn_sub {x y : Int64} (h : tn y ≤ tn x) : tn (x - y) = tn x - tn y := by
  show (x.toBitVec - y.toBitVec).toNat = _
  have h1 : tn x < 18446744073709551616 := x.toBitVec.isLt
  rw [BitVec.toNat_sub]
  unfold tn at *
  omega
theorem tn_and {x y : Int64} : tn (x &&& y) = tn x &&& tn y := by
  show (x.toBitVec &&& y.toBitVec).toNat = _
  rw [BitVec.toNat_and]
  rfl
theorem tn_lu {x : Int64} {s : Nat} (hs : s < 64) : tn (lu x s) = tn x / 2 ^ s := by
  rw [← Nat.shiftRight_eq_div_pow]
  apply Nat.eq_of_testBit_eq
  intro i
  have := lu_bit (x := x) (z := s) (by omega) (by omega) (i := i)
  rw [show ((s : Int)).toNat = s by omega] at this
  rw [Nat.testBit_shiftRight, Nat.add_comm s i]
  exact this
theorem tn_c {c : Nat} (h : c < 18446744073709551616) : tn (i64 c) = c := by
  show (BitVec.ofInt 64 (c : Int)).toNat = c
  rw [BitVec.toNat_ofInt]
  show ((c : Int) % 18446744073709551616).toNat = c
  omega
theorem tn_85 : tn (i64 6148914691236517205) = 6148914691236517205 := tn_c (c := 6148914691236517205) (by omega)
theorem tn_51 : tn (i64 3689348814741910323) = 3689348814741910323 := tn_c (c := 3689348814741910323) (by omega)
theorem tn_15 : tn (i64 1085102592571150095) = 1085102592571150095 := tn_c (c := 1085102592571150095) (by omega)
def nb : List Nat → Nat
  | [] => 0
  | b :: l => 256 * nb l + b
theorem mask1 {s b m R M : Nat} (hs : s ≤ 8) (hb : b < 256) (hm : m < 2 ^ (8 - s)) : ((256 * R + b) / 2 ^ s) &&& (256 * M + m) = 256 * ((R / 2 ^ s) &&& M) + ((b / 2 ^ s) &&& m) := by
  have hm8 : m < 256 := Nat.lt_of_lt_of_le hm (by have := Nat.pow_le_pow_right (n := 2) (by omega) (Nat.sub_le 8 s); omega)
  have hbm : (b / 2 ^ s) &&& m < 2 ^ 8 := Nat.lt_of_le_of_lt Nat.and_le_right hm8
  rw [← Nat.shiftRight_eq_div_pow, ← Nat.shiftRight_eq_div_pow, ← Nat.shiftRight_eq_div_pow] at *
  apply Nat.eq_of_testBit_eq
  intro i
  rw [Nat.testBit_and, Nat.testBit_shiftRight, show 256 * R + b = 2 ^ 8 * R + b from rfl, show 256 * M + m = 2 ^ 8 * M + m from rfl, Nat.testBit_two_pow_mul_add _ (by omega), Nat.testBit_two_pow_mul_add _ (by omega), show 256 * (R >>> s &&& M) + (b >>> s &&& m) = 2 ^ 8 * (R >>> s &&& M) + (b >>> s &&& m) from rfl, Nat.testBit_two_pow_mul_add _ hbm]
  by_cases hi : i < 8
  · rw [if_pos hi, if_pos hi, Nat.testBit_and, Nat.testBit_shiftRight]
    by_cases h2 : s + i < 8
    · rw [if_pos h2]
    · have : m.testBit i = false := Nat.testBit_lt_two_pow (Nat.lt_of_lt_of_le hm (Nat.pow_le_pow_right (by omega) (by omega)))
      rw [this, Bool.and_false, Bool.and_false]
  · rw [if_neg hi, if_neg hi, if_neg (by omega), Nat.testBit_and, Nat.testBit_shiftRight, show s + i - 8 = s + (i - 8) by omega]
theorem maskL {s m : Nat} (hs : s ≤ 8) (hm : m < 2 ^ (8 - s)) : ∀ l : List Nat, (∀ b ∈ l, b < 256) → (nb l / 2 ^ s) &&& nb (l.map fun _ => m) = nb (l.map fun b => (b / 2 ^ s) &&& m)
  | [], _ => by simp [nb]
  | b :: l, h => by
    simp only [List.map_cons, nb]
    rw [mask1 hs (h b List.mem_cons_self) hm, maskL hs hm l (fun x hx => h x (List.mem_cons_of_mem _ hx))]
theorem nb_sub {f : Nat → Nat} (hf : ∀ b, f b ≤ b) : ∀ l : List Nat, nb (l.map f) ≤ nb l ∧ nb l - nb (l.map f) = nb (l.map fun b => b - f b)
  | [] => by simp [nb]
  | b :: l => by
    have := nb_sub hf l
    have hb := hf b
    simp only [List.map_cons, nb]
    omega
theorem nb_add {f g : Nat → Nat} : ∀ l : List Nat, nb (l.map f) + nb (l.map g) = nb (l.map fun b => f b + g b)
  | [] => by simp [nb]
  | b :: l => by
    have := nb_add (f := f) (g := g) l
    simp only [List.map_cons, nb]
    omega
theorem nb_nib : ∀ l : List Nat, (∀ e ∈ l, e % 16 ≤ 4 ∧ e / 16 ≤ 4) → nb l % 16 ≤ 4 ∧ (nb l + nb l / 16) &&& nb (l.map fun _ => 15) = nb (l.map fun e => e % 16 + e / 16)
  | [], _ => by simp [nb]
  | e :: l, h => by
    have ih := nb_nib l (fun x hx => h x (List.mem_cons_of_mem _ hx))
    have he := h e List.mem_cons_self
    simp only [List.map_cons, nb]
    refine ⟨by omega, ?_⟩
    have h1 : 256 * nb l + e + (256 * nb l + e) / 16 = 256 * (nb l + nb l / 16) + (16 * (nb l % 16) + e + e / 16) := by omega
    have h2 := mask1 (s := 0) (b := 16 * (nb l % 16) + e + e / 16) (m := 15) (R := nb l + nb l / 16) (M := nb (l.map fun _ => 15)) (by omega) (by omega) (by decide)
    simp only [Nat.pow_zero, Nat.div_one] at h2
    rw [h1, h2, ih.2, show (15 : Nat) = 2 ^ 4 - 1 from rfl, Nat.and_two_pow_sub_one_eq_mod]
    omega
def g1 (b : Nat) : Nat := b - ((b / 2 ^ 1) &&& 85)
def g2 (c : Nat) : Nat := ((c / 2 ^ 0) &&& 51) + ((c / 2 ^ 2) &&& 51)
theorem g_ok : ∀ b : Fin 256, g1 b.val < 256 ∧ g2 (g1 b.val) % 16 ≤ 4 ∧ g2 (g1 b.val) / 16 ≤ 4 ∧ g2 (g1 b.val) % 16 + g2 (g1 b.val) / 16 = b.val % 2 + b.val / 2 % 2 + b.val / 4 % 2 + b.val / 8 % 2 + b.val / 16 % 2 + b.val / 32 % 2 + b.val / 64 % 2 + b.val / 128 % 2 := by decide +kernel
theorem g_o {b : Nat} (h : b < 256) : g1 b < 256 ∧ g2 (g1 b) % 16 ≤ 4 ∧ g2 (g1 b) / 16 ≤ 4 ∧ g2 (g1 b) % 16 + g2 (g1 b) / 16 = b % 2 + b / 2 % 2 + b / 4 % 2 + b / 8 % 2 + b / 16 % 2 + b / 32 % 2 + b / 64 % 2 + b / 128 % 2 := g_ok ⟨b, h⟩
theorem g_le (b : Nat) : (b / 2 ^ 1) &&& 85 ≤ b := Nat.le_trans Nat.and_le_left (Nat.div_le_self _ _)
def pc8 (b : Nat) : Nat := b % 2 + b / 2 % 2 + b / 4 % 2 + b / 8 % 2 + b / 16 % 2 + b / 32 % 2 + b / 64 % 2 + b / 128 % 2
theorem tn_b3 {x : Int64} {l : List Nat} (hl : l.length = 8) (hb : ∀ b ∈ l, b < 256) (hx : tn x = nb l) : tn (b3 (b2 (b1 x))) = nb (l.map pc8) := by
  have m85 : nb (l.map fun _ => 85) = 6148914691236517205 := by
    rw [show (l.map fun _ => 85) = List.replicate 8 85 by rw [← hl]; exact List.map_const' ..]
    decide
  have m51 : ∀ f : Nat → Nat, nb ((l.map f).map fun _ => 51) = 3689348814741910323 := fun f => by
    rw [List.map_map, show ((fun _ => 51) ∘ f) = fun _ => 51 from rfl, show (l.map fun _ => 51) = List.replicate 8 51 by rw [← hl]; exact List.map_const' ..]
    decide
  have m15 : ∀ f : Nat → Nat, nb ((l.map f).map fun _ => 15) = 1085102592571150095 := fun f => by
    rw [List.map_map, show ((fun _ => 15) ∘ f) = fun _ => 15 from rfl, show (l.map fun _ => 15) = List.replicate 8 15 by rw [← hl]; exact List.map_const' ..]
    decide
  have hlt : ∀ l' : List Nat, l'.length = 8 → (∀ b ∈ l', b < 256) → nb l' < 18446744073709551616 := by
    intro l' h8 hb'
    match l', h8, hb' with
    | [a0, a1, a2, a3, a4, a5, a6, a7], _, hb' =>
      have h0 := hb' a0 (by simp)
      have h1 := hb' a1 (by simp)
      have h2 := hb' a2 (by simp)
      have h3 := hb' a3 (by simp)
      have h4 := hb' a4 (by simp)
      have h5 := hb' a5 (by simp)
      have h6 := hb' a6 (by simp)
      have h7 := hb' a7 (by simp)
      simp only [nb]
      omega
  have s1 : tn (b1 x) = nb (l.map g1) := by
    unfold b1
    have e : tn (lu x 1 &&& i64 6148914691236517205) = nb (l.map fun b => (b / 2 ^ 1) &&& 85) := by
      rw [tn_and, show (1 : Int) = ((1 : Nat) : Int) from rfl, tn_lu (by omega), hx, tn_85, ← m85]
      exact maskL (by omega) (by decide) l hb
    have := nb_sub g_le l
    rw [tn_sub (by rw [e, hx]; exact this.1), e, hx, this.2]
    rfl
  have hb1 : ∀ c ∈ l.map g1, c < 256 := by
    intro c hc
    obtain ⟨b, hbm, rfl⟩ := List.mem_map.mp hc
    exact (g_o (hb b hbm)).1
  have s2 : tn (b2 (b1 x)) = nb ((l.map g1).map g2) := by
    unfold b2
    have e0 : tn (b1 x &&& i64 3689348814741910323) = nb ((l.map g1).map fun c => (c / 2 ^ 0) &&& 51) := by
      rw [tn_and, s1, tn_51, ← m51 g1]
      have := maskL (s := 0) (m := 51) (by omega) (by decide) (l.map g1) hb1
      rw [← this, Nat.pow_zero, Nat.div_one]
    have e2 : tn (lu (b1 x) 2 &&& i64 3689348814741910323) = nb ((l.map g1).map fun c => (c / 2 ^ 2) &&& 51) := by
      rw [tn_and, show (2 : Int) = ((2 : Nat) : Int) from rfl, tn_lu (by omega), s1, tn_51, ← m51 g1]
      exact maskL (by omega) (by decide) (l.map g1) hb1
    have ee : nb ((l.map g1).map fun b => ((b / 2 ^ 0) &&& 51) + ((b / 2 ^ 2) &&& 51)) = nb ((l.map g1).map g2) := by
      congr 1
    rw [tn_add, e0, e2, nb_add, ee, Nat.mod_eq_of_lt]
    · refine hlt _ (by simp [hl]) ?_
      intro e he
      obtain ⟨c, hc, rfl⟩ := List.mem_map.mp he
      obtain ⟨b, hbm, rfl⟩ := List.mem_map.mp hc
      have hg := g_o (hb b hbm)
      have h2 : g2 (g1 b) < 256 := by
        generalize g2 (g1 b) = e at hg
        omega
      exact h2
  have hnib : ∀ e ∈ (l.map g1).map g2, e % 16 ≤ 4 ∧ e / 16 ≤ 4 := by
    intro e he
    obtain ⟨c, hc, rfl⟩ := List.mem_map.mp he
    obtain ⟨b, hbm, rfl⟩ := List.mem_map.mp hc
    have := g_o (hb b hbm)
    exact ⟨this.2.1, this.2.2.1⟩
  have hn := nb_nib _ hnib
  unfold b3
  rw [tn_and, tn_add, show (4 : Int) = ((4 : Nat) : Int) from rfl, tn_lu (by omega), s2, tn_15, show (2 : Nat) ^ 4 = 16 from rfl]
  have hs : nb ((l.map g1).map g2) + nb ((l.map g1).map g2) / 16 < 18446744073709551616 := by
    have hz : ∀ e ∈ (l.map g1).map g2, e < 128 := fun e he => by have := hnib e he; omega
    have : nb ((l.map g1).map g2) < 9300000000000000000 := by
      have h8 : ((l.map g1).map g2).length = 8 := by simp [hl]
      generalize (l.map g1).map g2 = l' at hz h8
      match l', h8, hz with
      | [a0, a1, a2, a3, a4, a5, a6, a7], _, hz =>
        have h0 := hz a0 (by simp)
        have h1 := hz a1 (by simp)
        have h2 := hz a2 (by simp)
        have h3 := hz a3 (by simp)
        have h4 := hz a4 (by simp)
        have h5 := hz a5 (by simp)
        have h6 := hz a6 (by simp)
        have h7 := hz a7 (by simp)
        simp only [nb]
        omega
    omega
  rw [Nat.mod_eq_of_lt hs]
  have hm := hn.2
  rw [show nb (((l.map g1).map g2).map fun _ => 15) = 1085102592571150095 by
    have h15 := m15 (g2 ∘ g1)
    rw [← List.map_map] at h15
    exact h15] at hm
  rw [hm, List.map_map, List.map_map]
  congr 1
  apply List.map_congr_left
  intro b hbm
  exact (g_o (hb b hbm)).2.2.2
theorem an_127 {x : Int64} : an x.toInt 127 = ((tn x % 128 : Nat) : Int) := by
  unfold an
  have h1 : (i32 x.toInt &&& i32 127).toBitVec.toNat = tn x % 128 := by
    show (BitVec.ofInt 32 x.toInt &&& BitVec.ofInt 32 127).toNat = _
    rw [BitVec.toNat_and, show (BitVec.ofInt 32 127).toNat = 2 ^ 7 - 1 by decide, Nat.and_two_pow_sub_one_eq_mod, BitVec.toNat_ofInt]
    have h2 : x.toInt = if 2 * tn x < 18446744073709551616 then (tn x : Int) else (tn x : Int) - 18446744073709551616 := by
      show x.toBitVec.toInt = _
      rw [BitVec.toInt_eq_toNat_cond]
      rfl
    rw [h2]
    show ((if 2 * tn x < 18446744073709551616 then (tn x : Int) else (tn x : Int) - 18446744073709551616) % 4294967296).toNat % 128 = _
    split <;> omega
  show (i32 x.toInt &&& i32 127).toBitVec.toInt = _
  rw [BitVec.toInt_eq_toNat_cond, h1, if_pos (by show 2 * (tn x % 128) < 4294967296; omega)]
theorem bc_sum {y : Int64} {r0 r1 r2 r3 r4 r5 r6 r7 : Nat} (p0 : r0 ≤ 8) (p1 : r1 ≤ 8) (p2 : r2 ≤ 8) (p3 : r3 ≤ 8) (p4 : r4 ≤ 8) (p5 : r5 ≤ 8) (p6 : r6 ≤ 8) (p7 : r7 ≤ 8) (h : tn y = 256 * (256 * (256 * (256 * (256 * (256 * (256 * (256 * 0 + r7) + r6) + r5) + r4) + r3) + r2) + r1) + r0) : ((tn ((y + lu y 8 + lu (y + lu y 8) 16) + lu (y + lu y 8 + lu (y + lu y 8) 16) 32) % 128 : Nat) : Int) = ((r0 + (r1 + (r2 + (r3 + (r4 + (r5 + (r6 + (r7 + 0))))))) : Nat) : Int) := by
  have q7 : 256 * 0 + r7 = r7 := by omega
  rw [q7] at h
  obtain ⟨n6, h6⟩ : ∃ n6, n6 = 256 * r7 + r6 := ⟨_, rfl⟩
  rw [← h6] at h
  obtain ⟨n5, h5⟩ : ∃ n5, n5 = 256 * n6 + r5 := ⟨_, rfl⟩
  rw [← h5] at h
  obtain ⟨n4, h4⟩ : ∃ n4, n4 = 256 * n5 + r4 := ⟨_, rfl⟩
  rw [← h4] at h
  obtain ⟨n3, h3⟩ : ∃ n3, n3 = 256 * n4 + r3 := ⟨_, rfl⟩
  rw [← h3] at h
  obtain ⟨n2, h2⟩ : ∃ n2, n2 = 256 * n3 + r2 := ⟨_, rfl⟩
  rw [← h2] at h
  obtain ⟨n1, h1⟩ : ∃ n1, n1 = 256 * n2 + r1 := ⟨_, rfl⟩
  rw [← h1] at h
  have u6 : n6 ≤ 2056 := by omega
  have u5 : n5 ≤ 526344 := by omega
  have u4 : n4 ≤ 134744072 := by omega
  have u3 : n3 ≤ 34494482440 := by omega
  have u2 : n2 ≤ 8830587504648 := by omega
  have u1 : n1 ≤ 2260630401189896 := by omega
  have u0 : tn y ≤ 578721382704613384 := by omega
  have t8 : tn (lu y 8) = n1 := by
    rw [show (8 : Int) = ((8 : Nat) : Int) from rfl, tn_lu (by omega), show (2 : Nat) ^ 8 = 256 from rfl, h]
    omega
  have x4 : tn (y + lu y 8) = tn y + n1 := by rw [tn_add, t8, Nat.mod_eq_of_lt (by omega)]
  have t16 : tn (lu (y + lu y 8) 16) = n2 + n3 := by
    rw [show (16 : Int) = ((16 : Nat) : Int) from rfl, tn_lu (by omega), show (2 : Nat) ^ 16 = 256 * 256 from rfl, ← Nat.div_div_eq_div_mul, x4]
    have : (tn y + n1) / 256 = n1 + n2 := by omega
    rw [this]
    omega
  have x5 : tn (y + lu y 8 + lu (y + lu y 8) 16) = tn y + n1 + (n2 + n3) := by rw [tn_add, x4, t16, Nat.mod_eq_of_lt (by omega)]
  have t32 : tn (lu (y + lu y 8 + lu (y + lu y 8) 16) 32) = n4 + n5 + n6 + r7 := by
    rw [show (32 : Int) = ((32 : Nat) : Int) from rfl, tn_lu (by omega), show (2 : Nat) ^ 32 = 256 * 256 * 256 * 256 from rfl, ← Nat.div_div_eq_div_mul, ← Nat.div_div_eq_div_mul, ← Nat.div_div_eq_div_mul, x5]
    have a1 : (tn y + n1 + (n2 + n3)) / 256 = n1 + n2 + n3 + n4 := by omega
    have a2 : (n1 + n2 + n3 + n4) / 256 = n2 + n3 + n4 + n5 := by omega
    have a3 : (n2 + n3 + n4 + n5) / 256 = n3 + n4 + n5 + n6 := by omega
    have a4 : (n3 + n4 + n5 + n6) / 256 = n4 + n5 + n6 + r7 := by omega
    rw [a1, a2, a3, a4]
  have hmd : (tn y + n1 + (n2 + n3) + (n4 + n5 + n6 + r7)) % 18446744073709551616 = tn y + n1 + (n2 + n3) + (n4 + n5 + n6 + r7) := Nat.mod_eq_of_lt (by omega)
  rw [tn_add, x5, t32, hmd]
  have e : tn y + n1 + (n2 + n3) + (n4 + n5 + n6 + r7) = 128 * (2 * (n1 + n2 + n3 + n4 + n5 + n6 + r7)) + (r0 + r1 + r2 + r3 + r4 + r5 + r6 + r7) := by omega
  rw [e]
  omega
theorem bc_nb {x : Int64} {l : List Nat} (hl : l.length = 8) (hb : ∀ b ∈ l, b < 256) (hx : tn x = nb l) : bc x = ((l.map pc8).sum : Nat) := by
  have h3 := tn_b3 hl hb hx
  unfold bc
  rw [an_127]
  have hp : ∀ b, pc8 b ≤ 8 := fun b => by unfold pc8; omega
  match l, hl with
  | [a0, a1, a2, a3, a4, a5, a6, a7], _ =>
    have p0 := hp a0; have p1 := hp a1; have p2 := hp a2; have p3 := hp a3
    have p4 := hp a4; have p5 := hp a5; have p6 := hp a6; have p7 := hp a7
    simp only [List.map_cons, List.map_nil, nb, List.sum_cons, List.sum_nil] at h3 ⊢
    exact bc_sum p0 p1 p2 p3 p4 p5 p6 p7 h3
/-! of a set of cells -/
def vbN : List Bool → Nat
  | [] => 0
  | b :: l => vbN l * 2 + b.toNat
theorem vbN_eq : ∀ l : List Bool, (BitVec.ofBoolListLE l).toNat = vbN l
  | [] => rfl
  | b :: l => by
    show (BitVec.concat (BitVec.ofBoolListLE l) b).toNat = _
    rw [BitVec.toNat_concat, vbN_eq l]
    rfl
theorem vbN_lt : ∀ l : List Bool, vbN l < 2 ^ l.length
  | [] => by decide
  | b :: l => by
    have := vbN_lt l
    have hb : b.toNat ≤ 1 := by cases b <;> decide
    simp only [vbN, List.length_cons, Nat.pow_succ]
    omega
theorem vbN_8 {a0 a1 a2 a3 a4 a5 a6 a7 : Bool} (l : List Bool) : vbN (a0 :: a1 :: a2 :: a3 :: a4 :: a5 :: a6 :: a7 :: l) = 256 * vbN l + vbN [a0, a1, a2, a3, a4, a5, a6, a7] := by
  simp only [vbN]
  omega
theorem pc_8 (a0 a1 a2 a3 a4 a5 a6 a7 : Bool) : pc8 (vbN [a0, a1, a2, a3, a4, a5, a6, a7]) = a0.toNat + a1.toNat + a2.toNat + a3.toNat + a4.toNat + a5.toNat + a6.toNat + a7.toNat := by
  have h : ∀ b : Bool, b.toNat ≤ 1 := fun b => by cases b <;> decide
  have h0 := h a0; have h1 := h a1; have h2 := h a2; have h3 := h a3; have h4 := h a4; have h5 := h a5; have h6 := h a6; have h7 := h a7
  simp only [vbN, pc8]
  omega
/-- how many of the first n cells are of a set -/
def cnt (p : Int → Bool) : Nat → Int
  | 0 => 0
  | n + 1 => cnt p n + if p n then 1 else 0
theorem tn_bs {p : Int → Bool} : tn (bs p) = vbN ((List.range 64).map fun i : Nat => p (i : Int)) := by
  show (BitVec.setWidth 64 (BitVec.ofBoolListLE ((List.range 64).map fun i : Nat => p (i : Int)))).toNat = _
  rw [BitVec.toNat_setWidth, vbN_eq, Nat.mod_eq_of_lt]
  have := vbN_lt ((List.range 64).map fun i : Nat => p (i : Int))
  rwa [List.length_map, List.length_range] at this
theorem b2n (b : Bool) : (b.toNat : Int) = if b then 1 else 0 := by cases b <;> rfl
def by8 (p : Int → Bool) (j : Nat) : Nat := vbN [p ((8 * j : Nat) : Int), p ((8 * j + 1 : Nat) : Int), p ((8 * j + 2 : Nat) : Int), p ((8 * j + 3 : Nat) : Int), p ((8 * j + 4 : Nat) : Int), p ((8 * j + 5 : Nat) : Int), p ((8 * j + 6 : Nat) : Int), p ((8 * j + 7 : Nat) : Int)]
theorem by8_lt (p : Int → Bool) (j : Nat) : by8 p j < 256 := by
  unfold by8
  have h : ∀ b : Bool, b.toNat ≤ 1 := fun b => by cases b <;> decide
  generalize p _ = a0, p _ = a1, p _ = a2, p _ = a3, p _ = a4, p _ = a5, p _ = a6, p _ = a7
  have h0 := h a0; have h1 := h a1; have h2 := h a2; have h3 := h a3; have h4 := h a4; have h5 := h a5; have h6 := h a6; have h7 := h a7
  simp only [vbN]
  omega
theorem by8_pc (p : Int → Bool) (j : Nat) : cnt p (8 * j + 8) = cnt p (8 * j) + (pc8 (by8 p j) : Int) := by
  unfold by8
  rw [pc_8]
  simp only [cnt]
  push_cast
  simp only [b2n]
  omega
theorem bc_bs {p : Int → Bool} : bc (bs p) = cnt p 64 := by
  have h : tn (bs p) = nb [by8 p 0, by8 p 1, by8 p 2, by8 p 3, by8 p 4, by8 p 5, by8 p 6, by8 p 7] := by
    rw [tn_bs]
    have hr : (List.range 64).map (fun i : Nat => p (i : Int)) = [p ((0 : Nat) : Int), p ((1 : Nat) : Int), p ((2 : Nat) : Int), p ((3 : Nat) : Int), p ((4 : Nat) : Int), p ((5 : Nat) : Int), p ((6 : Nat) : Int), p ((7 : Nat) : Int), p ((8 : Nat) : Int), p ((9 : Nat) : Int), p ((10 : Nat) : Int), p ((11 : Nat) : Int), p ((12 : Nat) : Int), p ((13 : Nat) : Int), p ((14 : Nat) : Int), p ((15 : Nat) : Int), p ((16 : Nat) : Int), p ((17 : Nat) : Int), p ((18 : Nat) : Int), p ((19 : Nat) : Int), p ((20 : Nat) : Int), p ((21 : Nat) : Int), p ((22 : Nat) : Int), p ((23 : Nat) : Int), p ((24 : Nat) : Int), p ((25 : Nat) : Int), p ((26 : Nat) : Int), p ((27 : Nat) : Int), p ((28 : Nat) : Int), p ((29 : Nat) : Int), p ((30 : Nat) : Int), p ((31 : Nat) : Int), p ((32 : Nat) : Int), p ((33 : Nat) : Int), p ((34 : Nat) : Int), p ((35 : Nat) : Int), p ((36 : Nat) : Int), p ((37 : Nat) : Int), p ((38 : Nat) : Int), p ((39 : Nat) : Int), p ((40 : Nat) : Int), p ((41 : Nat) : Int), p ((42 : Nat) : Int), p ((43 : Nat) : Int), p ((44 : Nat) : Int), p ((45 : Nat) : Int), p ((46 : Nat) : Int), p ((47 : Nat) : Int), p ((48 : Nat) : Int), p ((49 : Nat) : Int), p ((50 : Nat) : Int), p ((51 : Nat) : Int), p ((52 : Nat) : Int), p ((53 : Nat) : Int), p ((54 : Nat) : Int), p ((55 : Nat) : Int), p ((56 : Nat) : Int), p ((57 : Nat) : Int), p ((58 : Nat) : Int), p ((59 : Nat) : Int), p ((60 : Nat) : Int), p ((61 : Nat) : Int), p ((62 : Nat) : Int), p ((63 : Nat) : Int)] := rfl
    rw [hr, vbN_8, vbN_8, vbN_8, vbN_8, vbN_8, vbN_8, vbN_8, vbN_8]
    rfl
  have hb : ∀ b ∈ [by8 p 0, by8 p 1, by8 p 2, by8 p 3, by8 p 4, by8 p 5, by8 p 6, by8 p 7], b < 256 := by
    intro b hb
    simp only [List.mem_cons, List.not_mem_nil, or_false] at hb
    rcases hb with rfl | rfl | rfl | rfl | rfl | rfl | rfl | rfl <;> exact by8_lt _ _
  rw [bc_nb rfl hb h]
  have q0 := by8_pc p 0; have q1 := by8_pc p 1; have q2 := by8_pc p 2; have q3 := by8_pc p 3
  have q4 := by8_pc p 4; have q5 := by8_pc p 5; have q6 := by8_pc p 6; have q7 := by8_pc p 7
  simp only [List.map_cons, List.map_nil, List.sum_cons, List.sum_nil]
  have z : cnt p (8 * 0) = 0 := rfl
  rw [z] at q0
  simp only [Nat.reduceMul, Nat.reduceAdd] at q0 q1 q2 q3 q4 q5 q6 q7
  omega
theorem c307 {d : Nat} {k : Int} {p : Int → Bool} {h : vmH} {Q : vmO → vmH → Prop} (hk : 4 ≤ k) : Ca d k 307 [.long (bs p)] h Q = Q (.inl (some (.int (i32 (cnt p 64))))) h := by
  rw [c307r hk, bc_bs]
