/-! ===== a row an instruction (by program) ===== -/
def vX (v : Value) : Value := match v with
  | .long _ => vmJ
  | .double _ => vmJ
  | v => v
theorem vX_i {x : Int32} : vX (.int x) = .int x := rfl
theorem vX_r {x : Nat} : vX (.ref x) = .ref x := rfl
theorem vX_l {x : Int64} : vX (.long x) = vmJ := rfl
theorem vX_j : vX vmJ = vmJ := rfl
def an (u v : Int) : Int := (i32 u &&& i32 v).toInt
def oo (u v : Int) : Int := (i32 u ||| i32 v).toInt
def xo (u v : Int) : Int := (i32 u ^^^ i32 v).toInt
def sl (u v : Int) : Int := (i32 u <<< (i32 v &&& 31)).toInt
def sr (u v : Int) : Int := (i32 u >>> (i32 v &&& 31)).toInt
def us (u v : Int) : Int := ((i32 u).toUInt32 >>> ((i32 v).toUInt32 &&& Int32.toUInt32 31)).toInt32.toInt
def ll (x : Int64) (v : Int) : Int64 := x <<< ((i32 v).toInt64 &&& 63)
def lr (x : Int64) (v : Int) : Int64 := x >>> ((i32 v).toInt64 &&& 63)
def lu (x : Int64) (v : Int) : Int64 := (x.toUInt64 >>> ((i32 v).toInt64.toUInt64 &&& Int64.toUInt64 63)).toInt64
theorem i32_i {u : Int} (h0 : -2147483648 ≤ u) (h1 : u < 2147483648) : (i32 u).toInt = u := Int32.toInt_ofInt_of_le h0 h1
theorem i32_add {u v : Int} : i32 u + i32 v = i32 (u + v) := by
  apply Int32.toBitVec_inj.1
  show BitVec.ofInt 32 u + BitVec.ofInt 32 v = BitVec.ofInt 32 (u + v)
  rw [BitVec.ofInt_add]
theorem i32_sub {u v : Int} : i32 u - i32 v = i32 (u - v) := by
  have h : i32 u = i32 (u - v) + i32 v := by rw [i32_add, Int.sub_add_cancel]
  rw [h]
  exact Int32.add_sub_cancel _ _
theorem i32_mul {u v : Int} : i32 u * i32 v = i32 (u * v) := by
  apply Int32.toBitVec_inj.1
  show BitVec.ofInt 32 u * BitVec.ofInt 32 v = BitVec.ofInt 32 (u * v)
  rw [BitVec.ofInt_mul]
theorem i32_ge {u v : Int} (a0 : -2147483648 ≤ u) (a1 : u < 2147483648) (b0 : -2147483648 ≤ v) (b1 : v < 2147483648) : (i32 u = i32 v ↔ u = v) ∧ (i32 u < i32 v ↔ u < v) ∧ (i32 u ≤ i32 v ↔ u ≤ v) := by
  refine ⟨?_, ?_, ?_⟩
  · constructor
    · intro h
      have := congrArg Int32.toInt h
      rwa [i32_i a0 a1, i32_i b0 b1] at this
    · intro h; rw [h]
  · rw [Int32.lt_iff_toInt_lt, i32_i a0 a1, i32_i b0 b1]
  · rw [Int32.le_iff_toInt_le, i32_i a0 a1, i32_i b0 b1]
theorem i32_div {u v : Int} (a0 : 0 ≤ u) (a1 : u < 2147483648) (b0 : 0 < v) (b1 : v < 2147483648) : i32 u / i32 v = i32 (u / v) := by
  apply Int32.toInt_inj.1
  have h1 : u / v ≤ u := Int.ediv_le_self v a0
  have h2 : 0 ≤ u / v := Int.ediv_nonneg a0 (by omega)
  rw [Int32.toInt_div, i32_i (by omega) a1, i32_i (by omega) b1, i32_i (by omega) (by omega), Int.tdiv_eq_ediv_of_nonneg a0]
  have := i32_i (u := u / v) (by omega) (by omega)
  rw [← this]
  unfold i32
  rw [Int32.toInt_ofInt]
  simp
theorem i32_rem {u v : Int} (a0 : 0 ≤ u) (a1 : u < 2147483648) (b0 : 0 < v) (b1 : v < 2147483648) : i32 u % i32 v = i32 (u % v) := by
  apply Int32.toInt_inj.1
  have h1 : u % v < v := Int.emod_lt_of_pos u b0
  have h2 : 0 ≤ u % v := Int.emod_nonneg u (by omega)
  rw [Int32.toInt_mod, i32_i (by omega) a1, i32_i (by omega) b1, i32_i (by omega) (by omega), Int.tmod_eq_emod_of_nonneg a0]
theorem i32_nz {v : Int} (b0 : 0 < v) (b1 : v < 2147483648) : ¬ i32 v = 0 := by
  intro h
  have := congrArg Int32.toInt h
  rw [i32_i (by omega) b1] at this
  have h0 : (0 : Int32).toInt = 0 := by decide
  omega
theorem i32_cl {z : Int} (h0 : 0 ≤ z) (h1 : z < 2147483648) : ((i32 z).toNatClampNeg : Int) = z := by
  rw [show (i32 z).toNatClampNeg = z.toNat from Int32.toNatClampNeg_ofInt_of_le (by omega) h1]
  omega
theorem i32_in {z : Int} {n : Nat} (h0 : 0 ≤ z) (h1 : z < n) (hn : n < 2147483648) : vmIn (i32 z) n = true := by
  have hc := i32_cl h0 (by omega : z < 2147483648)
  unfold vmIn
  rw [Bool.and_eq_true, decide_eq_true_eq, Nat.blt_eq]
  refine ⟨?_, by omega⟩
  have := (i32_ge (u := 0) (v := z) (by omega) (by omega) (by omega) (by omega)).2.2.mpr h0
  exact this
theorem i64_64 {u : Int} (h0 : -2147483648 ≤ u) (h1 : u < 2147483648) : (i32 u).toInt64 = i64 u := by
  unfold i32 i64
  exact Int32.toInt64_ofInt (by show (-2147483648 : Int) ≤ u; exact h0) (by show u ≤ (2147483647 : Int); omega)
theorem i32_c {u : Int} (a0 : 0 ≤ u) (a1 : u < 65536) : ((i32 u).toUInt32 % 65536).toInt32 = i32 u := by
  have hx : (i32 u).toUInt32 % 65536 = (i32 u).toUInt32 := by
    apply UInt32.toNat_inj.1
    rw [UInt32.toNat_mod]
    have : (i32 u).toUInt32.toNat = u.toNat := by
      rw [Int32.toNat_toUInt32_of_le ((i32_ge (u := 0) (v := u) (by omega) (by omega) (by omega) (by omega)).2.2.mpr a0)]
      exact Int32.toNatClampNeg_ofInt_of_le (by omega) (by omega)
    rw [this]
    show u.toNat % 65536 = u.toNat
    omega
  rw [hx]
  rfl
theorem lcmp_3 (x z : Int64) : (x < z ∧ ¬ x = z ∧ ¬ z < x ∧ x ≤ z ∧ ¬ z ≤ x ∧ vmLcmp x z = -1) ∨ (¬ x < z ∧ x = z ∧ ¬ z < x ∧ x ≤ z ∧ z ≤ x ∧ vmLcmp x z = 0) ∨ (¬ x < z ∧ ¬ x = z ∧ z < x ∧ ¬ x ≤ z ∧ z ≤ x ∧ vmLcmp x z = 1) := by
  unfold vmLcmp
  simp only [Int64.lt_iff_toInt_lt, Int64.le_iff_toInt_le, ← Int64.toInt_inj]
  by_cases h1 : x.toInt < z.toInt
  · left; rw [if_pos h1]; exact ⟨h1, by omega, by omega, by omega, by omega, rfl⟩
  · by_cases h2 : z.toInt < x.toInt
    · right; right; rw [if_neg h1, if_pos h2]; exact ⟨h1, by omega, h2, by omega, by omega, rfl⟩
    · right; left; rw [if_neg h1, if_neg h2]; exact ⟨h1, by omega, h2, by omega, by omega, rfl⟩
theorem lcmp_eq (x z : Int64) : vmIf 0 (vmLcmp x z) 0 = decide (x = z) := by
  rcases lcmp_3 x z with ⟨h1, h2, h3, h4, h5, h⟩ | ⟨h1, h2, h3, h4, h5, h⟩ | ⟨h1, h2, h3, h4, h5, h⟩ <;> rw [h] <;> simp only [h2] <;> decide
theorem lcmp_ne (x z : Int64) : vmIf 1 (vmLcmp x z) 0 = decide (¬ x = z) := by
  rcases lcmp_3 x z with ⟨h1, h2, h3, h4, h5, h⟩ | ⟨h1, h2, h3, h4, h5, h⟩ | ⟨h1, h2, h3, h4, h5, h⟩ <;> rw [h] <;> simp only [h2] <;> decide
theorem lcmp_lt (x z : Int64) : vmIf 2 (vmLcmp x z) 0 = decide (x < z) := by
  rcases lcmp_3 x z with ⟨h1, h2, h3, h4, h5, h⟩ | ⟨h1, h2, h3, h4, h5, h⟩ | ⟨h1, h2, h3, h4, h5, h⟩ <;> rw [h] <;> simp only [h1] <;> decide
theorem lcmp_ge (x z : Int64) : vmIf 3 (vmLcmp x z) 0 = decide (z ≤ x) := by
  rcases lcmp_3 x z with ⟨h1, h2, h3, h4, h5, h⟩ | ⟨h1, h2, h3, h4, h5, h⟩ | ⟨h1, h2, h3, h4, h5, h⟩ <;> rw [h] <;> simp only [h5] <;> decide
theorem lcmp_gt (x z : Int64) : vmIf 4 (vmLcmp x z) 0 = decide (z < x) := by
  rcases lcmp_3 x z with ⟨h1, h2, h3, h4, h5, h⟩ | ⟨h1, h2, h3, h4, h5, h⟩ | ⟨h1, h2, h3, h4, h5, h⟩ <;> rw [h] <;> simp only [h3] <;> decide
theorem lcmp_le (x z : Int64) : vmIf 5 (vmLcmp x z) 0 = decide (x ≤ z) := by
  rcases lcmp_3 x z with ⟨h1, h2, h3, h4, h5, h⟩ | ⟨h1, h2, h3, h4, h5, h⟩ | ⟨h1, h2, h3, h4, h5, h⟩ <;> rw [h] <;> simp only [h4] <;> decide

abbrev P_ic (y : vmM) (pc nx b : Nat) (a : Int) : Prop := ∀ (d : Nat) (L st : List Value) (h : vmH) (Q : vmO → vmH → Prop), Wp d y pc L st h Q = Wp d y nx L (.int (i32 a) :: st) h Q
theorem o_ic {a : Int} {y : vmM} {pc nx b : Nat} (ht : vmTab y pc = some (0, nx, a, 0, 0, [])) : P_ic y pc nx b a := by
  unfold P_ic
  intros
  refine wp_step ht (fun z => by cases z) (fun z => by cases z) (fun z => by cases z) ?_
  rfl
abbrev P_lc (y : vmM) (pc nx b : Nat) (a : Int) : Prop := ∀ (d : Nat) (L st : List Value) (h : vmH) (Q : vmO → vmH → Prop), Wp d y pc L st h Q = Wp d y nx L (.long (i64 a) :: st) h Q
theorem o_lc {a : Int} {y : vmM} {pc nx b : Nat} (ht : vmTab y pc = some (1, nx, a, 0, 0, [])) : P_lc y pc nx b a := by
  unfold P_lc
  intros
  refine wp_step ht (fun z => by cases z) (fun z => by cases z) (fun z => by cases z) ?_
  rfl
abbrev P_rc (y : vmM) (pc nx b : Nat) (r : Nat) : Prop := ∀ (d : Nat) (L st : List Value) (h : vmH) (Q : vmO → vmH → Prop), Wp d y pc L st h Q = Wp d y nx L (.ref r :: st) h Q
theorem o_rc {r : Nat} {y : vmM} {pc nx b : Nat} (ht : vmTab y pc = some (26, nx, 0, r, 0, [])) : P_rc y pc nx b r := by
  unfold P_rc
  intros
  refine wp_step ht (fun z => by cases z) (fun z => by cases z) (fun z => by cases z) ?_
  rfl
abbrev P_il0 (y : vmM) (pc nx b : Nat) : Prop := ∀ (d : Nat)  (u : Int) (L st : List Value) (h : vmH) (Q : vmO → vmH → Prop), Wp d y pc (.int (i32 u) :: L) st h Q = Wp d y nx (.int (i32 u) :: L) (.int (i32 u) :: st) h Q
theorem o_il0 {y : vmM} {pc nx b : Nat} (ht : vmTab y pc = some (2, nx, 0, 0, 0, [])) : P_il0 y pc nx b := by
  unfold P_il0
  intros
  refine wp_step ht (fun z => by cases z) (fun z => by cases z) (fun z => by cases z) ?_
  rfl
abbrev P_ll0 (y : vmM) (pc nx b : Nat) : Prop := ∀ (d : Nat)  (u : Int64) (L st : List Value) (h : vmH) (Q : vmO → vmH → Prop), Wp d y pc (.long u :: L) st h Q = Wp d y nx (.long u :: L) (.long u :: st) h Q
theorem o_ll0 {y : vmM} {pc nx b : Nat} (ht : vmTab y pc = some (2, nx, 0, 0, 1, [])) : P_ll0 y pc nx b := by
  unfold P_ll0
  intros
  refine wp_step ht (fun z => by cases z) (fun z => by cases z) (fun z => by cases z) ?_
  rfl
abbrev P_rl0 (y : vmM) (pc nx b : Nat) : Prop := ∀ (d : Nat)  (u : Nat) (L st : List Value) (h : vmH) (Q : vmO → vmH → Prop) (_ : u < 3000000), Wp d y pc (.ref u :: L) st h Q = Wp d y nx (.ref u :: L) (.ref u :: st) h Q
theorem o_rl0 {y : vmM} {pc nx b : Nat} (ht : vmTab y pc = some (2, nx, 0, 0, 2, [])) : P_rl0 y pc nx b := by
  intro d u L st h Q hu
  refine wp_step ht (fun z => by cases z) (fun z => by cases z) (fun z => by cases z) ?_
  show (if vmKind 2 (.ref u) then _ else _) = _
  rw [if_pos (show vmKind 2 (.ref u) = true from (Nat.blt_eq).mpr hu)]
abbrev P_is0 (y : vmM) (pc nx b : Nat) : Prop := ∀ (d : Nat)  (m0 : Value) (u : Int) (L st : List Value) (h : vmH) (Q : vmO → vmH → Prop), Wp d y pc (m0 :: L) (.int (i32 u) :: st) h Q = Wp d y nx (.int (i32 u) :: L) st h Q
theorem o_is0 {y : vmM} {pc nx b : Nat} (ht : vmTab y pc = some (3, nx, 0, 0, 0, [])) : P_is0 y pc nx b := by
  intro d m0 u L st h Q
  refine wp_step ht (fun z => by cases z) (fun z => by cases z) (fun z => by cases z) ?_
  show (if 0 < ((m0 :: L)).length then some (nx, vmPut _ 0 _, st, h) else none) = _
  rw [if_pos (by simp only [List.length_cons]; omega)]
  rfl
abbrev P_ls0 (y : vmM) (pc nx b : Nat) : Prop := ∀ (d : Nat)  (m0 m1 : Value) (u : Int64) (L st : List Value) (h : vmH) (Q : vmO → vmH → Prop), Wp d y pc (m0 :: m1 :: L) (.long u :: st) h Q = Wp d y nx (.long u :: vmJ :: L) st h Q
theorem o_ls0 {y : vmM} {pc nx b : Nat} (ht : vmTab y pc = some (3, nx, 0, 0, 1, [])) : P_ls0 y pc nx b := by
  intro d m0 m1 u L st h Q
  refine wp_step ht (fun z => by cases z) (fun z => by cases z) (fun z => by cases z) ?_
  show (if 0 + 1 < ((m0 :: m1 :: L)).length then some (nx, vmPut2 _ 0 _, st, h) else none) = _
  rw [if_pos (by simp only [List.length_cons]; omega)]
  rfl
abbrev P_rs0 (y : vmM) (pc nx b : Nat) : Prop := ∀ (d : Nat)  (m0 : Value) (u : Nat) (L st : List Value) (h : vmH) (Q : vmO → vmH → Prop) (_ : u < 3000000), Wp d y pc (m0 :: L) (.ref u :: st) h Q = Wp d y nx (.ref u :: L) st h Q
theorem o_rs0 {y : vmM} {pc nx b : Nat} (ht : vmTab y pc = some (3, nx, 0, 0, 2, [])) : P_rs0 y pc nx b := by
  intro d m0 u L st h Q hu
  refine wp_step ht (fun z => by cases z) (fun z => by cases z) (fun z => by cases z) ?_
  show (if vmKind 2 (.ref u) then _ else _) = _
  rw [if_pos (show vmKind 2 (.ref u) = true from (Nat.blt_eq).mpr hu)]
  show (if 0 < ((m0 :: L)).length then some (nx, vmPut _ 0 _, st, h) else none) = _
  rw [if_pos (by simp only [List.length_cons]; omega)]
  rfl
abbrev P_inc0 (y : vmM) (pc nx b : Nat) (a : Int) : Prop := ∀ (d : Nat)  (u : Int) (L st : List Value) (h : vmH) (Q : vmO → vmH → Prop), Wp d y pc (.int (i32 u) :: L) st h Q = Wp d y nx (.int (i32 (u + a)) :: L) st h Q
theorem o_inc0 {a : Int} {y : vmM} {pc nx b : Nat} (ht : vmTab y pc = some (4, nx, a, 0, 0, [])) : P_inc0 y pc nx b a := by
  intro d u L st h Q
  rw [← i32_add]
  refine wp_step ht (fun z => by cases z) (fun z => by cases z) (fun z => by cases z) ?_
  show some (nx, vmPut _ 0 _, st, h) = _
  rfl
abbrev P_il1 (y : vmM) (pc nx b : Nat) : Prop := ∀ (d : Nat)  (l0 : Value) (u : Int) (L st : List Value) (h : vmH) (Q : vmO → vmH → Prop), Wp d y pc (l0 :: .int (i32 u) :: L) st h Q = Wp d y nx (l0 :: .int (i32 u) :: L) (.int (i32 u) :: st) h Q
theorem o_il1 {y : vmM} {pc nx b : Nat} (ht : vmTab y pc = some (2, nx, 0, 1, 0, [])) : P_il1 y pc nx b := by
  unfold P_il1
  intros
  refine wp_step ht (fun z => by cases z) (fun z => by cases z) (fun z => by cases z) ?_
  rfl
abbrev P_ll1 (y : vmM) (pc nx b : Nat) : Prop := ∀ (d : Nat)  (l0 : Value) (u : Int64) (L st : List Value) (h : vmH) (Q : vmO → vmH → Prop), Wp d y pc (l0 :: .long u :: L) st h Q = Wp d y nx (l0 :: .long u :: L) (.long u :: st) h Q
theorem o_ll1 {y : vmM} {pc nx b : Nat} (ht : vmTab y pc = some (2, nx, 0, 1, 1, [])) : P_ll1 y pc nx b := by
  unfold P_ll1
  intros
  refine wp_step ht (fun z => by cases z) (fun z => by cases z) (fun z => by cases z) ?_
  rfl
abbrev P_rl1 (y : vmM) (pc nx b : Nat) : Prop := ∀ (d : Nat)  (l0 : Value) (u : Nat) (L st : List Value) (h : vmH) (Q : vmO → vmH → Prop) (_ : u < 3000000), Wp d y pc (l0 :: .ref u :: L) st h Q = Wp d y nx (l0 :: .ref u :: L) (.ref u :: st) h Q
theorem o_rl1 {y : vmM} {pc nx b : Nat} (ht : vmTab y pc = some (2, nx, 0, 1, 2, [])) : P_rl1 y pc nx b := by
  intro d l0 u L st h Q hu
  refine wp_step ht (fun z => by cases z) (fun z => by cases z) (fun z => by cases z) ?_
  show (if vmKind 2 (.ref u) then _ else _) = _
  rw [if_pos (show vmKind 2 (.ref u) = true from (Nat.blt_eq).mpr hu)]
abbrev P_is1 (y : vmM) (pc nx b : Nat) : Prop := ∀ (d : Nat)  (l0 : Value) (m0 : Value) (u : Int) (L st : List Value) (h : vmH) (Q : vmO → vmH → Prop), Wp d y pc (l0 :: m0 :: L) (.int (i32 u) :: st) h Q = Wp d y nx (vX l0 :: .int (i32 u) :: L) st h Q
theorem o_is1 {y : vmM} {pc nx b : Nat} (ht : vmTab y pc = some (3, nx, 0, 1, 0, [])) : P_is1 y pc nx b := by
  intro d l0 m0 u L st h Q
  refine wp_step ht (fun z => by cases z) (fun z => by cases z) (fun z => by cases z) ?_
  show (if 1 < ((l0 :: m0 :: L)).length then some (nx, vmPut _ 1 _, st, h) else none) = _
  rw [if_pos (by simp only [List.length_cons]; omega)]
  cases l0 <;> rfl
abbrev P_ls1 (y : vmM) (pc nx b : Nat) : Prop := ∀ (d : Nat)  (l0 : Value) (m0 m1 : Value) (u : Int64) (L st : List Value) (h : vmH) (Q : vmO → vmH → Prop), Wp d y pc (l0 :: m0 :: m1 :: L) (.long u :: st) h Q = Wp d y nx (vX l0 :: .long u :: vmJ :: L) st h Q
theorem o_ls1 {y : vmM} {pc nx b : Nat} (ht : vmTab y pc = some (3, nx, 0, 1, 1, [])) : P_ls1 y pc nx b := by
  intro d l0 m0 m1 u L st h Q
  refine wp_step ht (fun z => by cases z) (fun z => by cases z) (fun z => by cases z) ?_
  show (if 1 + 1 < ((l0 :: m0 :: m1 :: L)).length then some (nx, vmPut2 _ 1 _, st, h) else none) = _
  rw [if_pos (by simp only [List.length_cons]; omega)]
  cases l0 <;> rfl
abbrev P_rs1 (y : vmM) (pc nx b : Nat) : Prop := ∀ (d : Nat)  (l0 : Value) (m0 : Value) (u : Nat) (L st : List Value) (h : vmH) (Q : vmO → vmH → Prop) (_ : u < 3000000), Wp d y pc (l0 :: m0 :: L) (.ref u :: st) h Q = Wp d y nx (vX l0 :: .ref u :: L) st h Q
theorem o_rs1 {y : vmM} {pc nx b : Nat} (ht : vmTab y pc = some (3, nx, 0, 1, 2, [])) : P_rs1 y pc nx b := by
  intro d l0 m0 u L st h Q hu
  refine wp_step ht (fun z => by cases z) (fun z => by cases z) (fun z => by cases z) ?_
  show (if vmKind 2 (.ref u) then _ else _) = _
  rw [if_pos (show vmKind 2 (.ref u) = true from (Nat.blt_eq).mpr hu)]
  show (if 1 < ((l0 :: m0 :: L)).length then some (nx, vmPut _ 1 _, st, h) else none) = _
  rw [if_pos (by simp only [List.length_cons]; omega)]
  cases l0 <;> rfl
abbrev P_inc1 (y : vmM) (pc nx b : Nat) (a : Int) : Prop := ∀ (d : Nat)  (l0 : Value) (u : Int) (L st : List Value) (h : vmH) (Q : vmO → vmH → Prop), Wp d y pc (l0 :: .int (i32 u) :: L) st h Q = Wp d y nx (vX l0 :: .int (i32 (u + a)) :: L) st h Q
theorem o_inc1 {a : Int} {y : vmM} {pc nx b : Nat} (ht : vmTab y pc = some (4, nx, a, 1, 0, [])) : P_inc1 y pc nx b a := by
  intro d l0 u L st h Q
  rw [← i32_add]
  refine wp_step ht (fun z => by cases z) (fun z => by cases z) (fun z => by cases z) ?_
  show some (nx, vmPut _ 1 _, st, h) = _
  cases l0 <;> rfl
abbrev P_il2 (y : vmM) (pc nx b : Nat) : Prop := ∀ (d : Nat)  (l0 : Value) (l1 : Value) (u : Int) (L st : List Value) (h : vmH) (Q : vmO → vmH → Prop), Wp d y pc (l0 :: l1 :: .int (i32 u) :: L) st h Q = Wp d y nx (l0 :: l1 :: .int (i32 u) :: L) (.int (i32 u) :: st) h Q
theorem o_il2 {y : vmM} {pc nx b : Nat} (ht : vmTab y pc = some (2, nx, 0, 2, 0, [])) : P_il2 y pc nx b := by
  unfold P_il2
  intros
  refine wp_step ht (fun z => by cases z) (fun z => by cases z) (fun z => by cases z) ?_
  rfl
abbrev P_ll2 (y : vmM) (pc nx b : Nat) : Prop := ∀ (d : Nat)  (l0 : Value) (l1 : Value) (u : Int64) (L st : List Value) (h : vmH) (Q : vmO → vmH → Prop), Wp d y pc (l0 :: l1 :: .long u :: L) st h Q = Wp d y nx (l0 :: l1 :: .long u :: L) (.long u :: st) h Q
theorem o_ll2 {y : vmM} {pc nx b : Nat} (ht : vmTab y pc = some (2, nx, 0, 2, 1, [])) : P_ll2 y pc nx b := by
  unfold P_ll2
  intros
  refine wp_step ht (fun z => by cases z) (fun z => by cases z) (fun z => by cases z) ?_
  rfl
abbrev P_rl2 (y : vmM) (pc nx b : Nat) : Prop := ∀ (d : Nat)  (l0 : Value) (l1 : Value) (u : Nat) (L st : List Value) (h : vmH) (Q : vmO → vmH → Prop) (_ : u < 3000000), Wp d y pc (l0 :: l1 :: .ref u :: L) st h Q = Wp d y nx (l0 :: l1 :: .ref u :: L) (.ref u :: st) h Q
theorem o_rl2 {y : vmM} {pc nx b : Nat} (ht : vmTab y pc = some (2, nx, 0, 2, 2, [])) : P_rl2 y pc nx b := by
  intro d l0 l1 u L st h Q hu
  refine wp_step ht (fun z => by cases z) (fun z => by cases z) (fun z => by cases z) ?_
  show (if vmKind 2 (.ref u) then _ else _) = _
  rw [if_pos (show vmKind 2 (.ref u) = true from (Nat.blt_eq).mpr hu)]
abbrev P_is2 (y : vmM) (pc nx b : Nat) : Prop := ∀ (d : Nat)  (l0 : Value) (l1 : Value) (m0 : Value) (u : Int) (L st : List Value) (h : vmH) (Q : vmO → vmH → Prop), Wp d y pc (l0 :: l1 :: m0 :: L) (.int (i32 u) :: st) h Q = Wp d y nx (l0 :: vX l1 :: .int (i32 u) :: L) st h Q
theorem o_is2 {y : vmM} {pc nx b : Nat} (ht : vmTab y pc = some (3, nx, 0, 2, 0, [])) : P_is2 y pc nx b := by
  intro d l0 l1 m0 u L st h Q
  refine wp_step ht (fun z => by cases z) (fun z => by cases z) (fun z => by cases z) ?_
  show (if 2 < ((l0 :: l1 :: m0 :: L)).length then some (nx, vmPut _ 2 _, st, h) else none) = _
  rw [if_pos (by simp only [List.length_cons]; omega)]
  cases l1 <;> rfl
abbrev P_ls2 (y : vmM) (pc nx b : Nat) : Prop := ∀ (d : Nat)  (l0 : Value) (l1 : Value) (m0 m1 : Value) (u : Int64) (L st : List Value) (h : vmH) (Q : vmO → vmH → Prop), Wp d y pc (l0 :: l1 :: m0 :: m1 :: L) (.long u :: st) h Q = Wp d y nx (l0 :: vX l1 :: .long u :: vmJ :: L) st h Q
theorem o_ls2 {y : vmM} {pc nx b : Nat} (ht : vmTab y pc = some (3, nx, 0, 2, 1, [])) : P_ls2 y pc nx b := by
  intro d l0 l1 m0 m1 u L st h Q
  refine wp_step ht (fun z => by cases z) (fun z => by cases z) (fun z => by cases z) ?_
  show (if 2 + 1 < ((l0 :: l1 :: m0 :: m1 :: L)).length then some (nx, vmPut2 _ 2 _, st, h) else none) = _
  rw [if_pos (by simp only [List.length_cons]; omega)]
  cases l1 <;> rfl
abbrev P_rs2 (y : vmM) (pc nx b : Nat) : Prop := ∀ (d : Nat)  (l0 : Value) (l1 : Value) (m0 : Value) (u : Nat) (L st : List Value) (h : vmH) (Q : vmO → vmH → Prop) (_ : u < 3000000), Wp d y pc (l0 :: l1 :: m0 :: L) (.ref u :: st) h Q = Wp d y nx (l0 :: vX l1 :: .ref u :: L) st h Q
theorem o_rs2 {y : vmM} {pc nx b : Nat} (ht : vmTab y pc = some (3, nx, 0, 2, 2, [])) : P_rs2 y pc nx b := by
  intro d l0 l1 m0 u L st h Q hu
  refine wp_step ht (fun z => by cases z) (fun z => by cases z) (fun z => by cases z) ?_
  show (if vmKind 2 (.ref u) then _ else _) = _
  rw [if_pos (show vmKind 2 (.ref u) = true from (Nat.blt_eq).mpr hu)]
  show (if 2 < ((l0 :: l1 :: m0 :: L)).length then some (nx, vmPut _ 2 _, st, h) else none) = _
  rw [if_pos (by simp only [List.length_cons]; omega)]
  cases l1 <;> rfl
abbrev P_inc2 (y : vmM) (pc nx b : Nat) (a : Int) : Prop := ∀ (d : Nat)  (l0 : Value) (l1 : Value) (u : Int) (L st : List Value) (h : vmH) (Q : vmO → vmH → Prop), Wp d y pc (l0 :: l1 :: .int (i32 u) :: L) st h Q = Wp d y nx (l0 :: vX l1 :: .int (i32 (u + a)) :: L) st h Q
theorem o_inc2 {a : Int} {y : vmM} {pc nx b : Nat} (ht : vmTab y pc = some (4, nx, a, 2, 0, [])) : P_inc2 y pc nx b a := by
  intro d l0 l1 u L st h Q
  rw [← i32_add]
  refine wp_step ht (fun z => by cases z) (fun z => by cases z) (fun z => by cases z) ?_
  show some (nx, vmPut _ 2 _, st, h) = _
  cases l1 <;> rfl
abbrev P_il3 (y : vmM) (pc nx b : Nat) : Prop := ∀ (d : Nat)  (l0 : Value) (l1 : Value) (l2 : Value) (u : Int) (L st : List Value) (h : vmH) (Q : vmO → vmH → Prop), Wp d y pc (l0 :: l1 :: l2 :: .int (i32 u) :: L) st h Q = Wp d y nx (l0 :: l1 :: l2 :: .int (i32 u) :: L) (.int (i32 u) :: st) h Q
theorem o_il3 {y : vmM} {pc nx b : Nat} (ht : vmTab y pc = some (2, nx, 0, 3, 0, [])) : P_il3 y pc nx b := by
  unfold P_il3
  intros
  refine wp_step ht (fun z => by cases z) (fun z => by cases z) (fun z => by cases z) ?_
  rfl
abbrev P_ll3 (y : vmM) (pc nx b : Nat) : Prop := ∀ (d : Nat)  (l0 : Value) (l1 : Value) (l2 : Value) (u : Int64) (L st : List Value) (h : vmH) (Q : vmO → vmH → Prop), Wp d y pc (l0 :: l1 :: l2 :: .long u :: L) st h Q = Wp d y nx (l0 :: l1 :: l2 :: .long u :: L) (.long u :: st) h Q
theorem o_ll3 {y : vmM} {pc nx b : Nat} (ht : vmTab y pc = some (2, nx, 0, 3, 1, [])) : P_ll3 y pc nx b := by
  unfold P_ll3
  intros
  refine wp_step ht (fun z => by cases z) (fun z => by cases z) (fun z => by cases z) ?_
  rfl
abbrev P_rl3 (y : vmM) (pc nx b : Nat) : Prop := ∀ (d : Nat)  (l0 : Value) (l1 : Value) (l2 : Value) (u : Nat) (L st : List Value) (h : vmH) (Q : vmO → vmH → Prop) (_ : u < 3000000), Wp d y pc (l0 :: l1 :: l2 :: .ref u :: L) st h Q = Wp d y nx (l0 :: l1 :: l2 :: .ref u :: L) (.ref u :: st) h Q
theorem o_rl3 {y : vmM} {pc nx b : Nat} (ht : vmTab y pc = some (2, nx, 0, 3, 2, [])) : P_rl3 y pc nx b := by
  intro d l0 l1 l2 u L st h Q hu
  refine wp_step ht (fun z => by cases z) (fun z => by cases z) (fun z => by cases z) ?_
  show (if vmKind 2 (.ref u) then _ else _) = _
  rw [if_pos (show vmKind 2 (.ref u) = true from (Nat.blt_eq).mpr hu)]
abbrev P_is3 (y : vmM) (pc nx b : Nat) : Prop := ∀ (d : Nat)  (l0 : Value) (l1 : Value) (l2 : Value) (m0 : Value) (u : Int) (L st : List Value) (h : vmH) (Q : vmO → vmH → Prop), Wp d y pc (l0 :: l1 :: l2 :: m0 :: L) (.int (i32 u) :: st) h Q = Wp d y nx (l0 :: l1 :: vX l2 :: .int (i32 u) :: L) st h Q
theorem o_is3 {y : vmM} {pc nx b : Nat} (ht : vmTab y pc = some (3, nx, 0, 3, 0, [])) : P_is3 y pc nx b := by
  intro d l0 l1 l2 m0 u L st h Q
  refine wp_step ht (fun z => by cases z) (fun z => by cases z) (fun z => by cases z) ?_
  show (if 3 < ((l0 :: l1 :: l2 :: m0 :: L)).length then some (nx, vmPut _ 3 _, st, h) else none) = _
  rw [if_pos (by simp only [List.length_cons]; omega)]
  cases l2 <;> rfl
abbrev P_ls3 (y : vmM) (pc nx b : Nat) : Prop := ∀ (d : Nat)  (l0 : Value) (l1 : Value) (l2 : Value) (m0 m1 : Value) (u : Int64) (L st : List Value) (h : vmH) (Q : vmO → vmH → Prop), Wp d y pc (l0 :: l1 :: l2 :: m0 :: m1 :: L) (.long u :: st) h Q = Wp d y nx (l0 :: l1 :: vX l2 :: .long u :: vmJ :: L) st h Q
theorem o_ls3 {y : vmM} {pc nx b : Nat} (ht : vmTab y pc = some (3, nx, 0, 3, 1, [])) : P_ls3 y pc nx b := by
  intro d l0 l1 l2 m0 m1 u L st h Q
  refine wp_step ht (fun z => by cases z) (fun z => by cases z) (fun z => by cases z) ?_
  show (if 3 + 1 < ((l0 :: l1 :: l2 :: m0 :: m1 :: L)).length then some (nx, vmPut2 _ 3 _, st, h) else none) = _
  rw [if_pos (by simp only [List.length_cons]; omega)]
  cases l2 <;> rfl
abbrev P_rs3 (y : vmM) (pc nx b : Nat) : Prop := ∀ (d : Nat)  (l0 : Value) (l1 : Value) (l2 : Value) (m0 : Value) (u : Nat) (L st : List Value) (h : vmH) (Q : vmO → vmH → Prop) (_ : u < 3000000), Wp d y pc (l0 :: l1 :: l2 :: m0 :: L) (.ref u :: st) h Q = Wp d y nx (l0 :: l1 :: vX l2 :: .ref u :: L) st h Q
theorem o_rs3 {y : vmM} {pc nx b : Nat} (ht : vmTab y pc = some (3, nx, 0, 3, 2, [])) : P_rs3 y pc nx b := by
  intro d l0 l1 l2 m0 u L st h Q hu
  refine wp_step ht (fun z => by cases z) (fun z => by cases z) (fun z => by cases z) ?_
  show (if vmKind 2 (.ref u) then _ else _) = _
  rw [if_pos (show vmKind 2 (.ref u) = true from (Nat.blt_eq).mpr hu)]
  show (if 3 < ((l0 :: l1 :: l2 :: m0 :: L)).length then some (nx, vmPut _ 3 _, st, h) else none) = _
  rw [if_pos (by simp only [List.length_cons]; omega)]
  cases l2 <;> rfl
abbrev P_inc3 (y : vmM) (pc nx b : Nat) (a : Int) : Prop := ∀ (d : Nat)  (l0 : Value) (l1 : Value) (l2 : Value) (u : Int) (L st : List Value) (h : vmH) (Q : vmO → vmH → Prop), Wp d y pc (l0 :: l1 :: l2 :: .int (i32 u) :: L) st h Q = Wp d y nx (l0 :: l1 :: vX l2 :: .int (i32 (u + a)) :: L) st h Q
theorem o_inc3 {a : Int} {y : vmM} {pc nx b : Nat} (ht : vmTab y pc = some (4, nx, a, 3, 0, [])) : P_inc3 y pc nx b a := by
  intro d l0 l1 l2 u L st h Q
  rw [← i32_add]
  refine wp_step ht (fun z => by cases z) (fun z => by cases z) (fun z => by cases z) ?_
  show some (nx, vmPut _ 3 _, st, h) = _
  cases l2 <;> rfl
abbrev P_il4 (y : vmM) (pc nx b : Nat) : Prop := ∀ (d : Nat)  (l0 : Value) (l1 : Value) (l2 : Value) (l3 : Value) (u : Int) (L st : List Value) (h : vmH) (Q : vmO → vmH → Prop), Wp d y pc (l0 :: l1 :: l2 :: l3 :: .int (i32 u) :: L) st h Q = Wp d y nx (l0 :: l1 :: l2 :: l3 :: .int (i32 u) :: L) (.int (i32 u) :: st) h Q
theorem o_il4 {y : vmM} {pc nx b : Nat} (ht : vmTab y pc = some (2, nx, 0, 4, 0, [])) : P_il4 y pc nx b := by
  unfold P_il4
  intros
  refine wp_step ht (fun z => by cases z) (fun z => by cases z) (fun z => by cases z) ?_
  rfl
abbrev P_ll4 (y : vmM) (pc nx b : Nat) : Prop := ∀ (d : Nat)  (l0 : Value) (l1 : Value) (l2 : Value) (l3 : Value) (u : Int64) (L st : List Value) (h : vmH) (Q : vmO → vmH → Prop), Wp d y pc (l0 :: l1 :: l2 :: l3 :: .long u :: L) st h Q = Wp d y nx (l0 :: l1 :: l2 :: l3 :: .long u :: L) (.long u :: st) h Q
theorem o_ll4 {y : vmM} {pc nx b : Nat} (ht : vmTab y pc = some (2, nx, 0, 4, 1, [])) : P_ll4 y pc nx b := by
  unfold P_ll4
  intros
  refine wp_step ht (fun z => by cases z) (fun z => by cases z) (fun z => by cases z) ?_
  rfl
abbrev P_rl4 (y : vmM) (pc nx b : Nat) : Prop := ∀ (d : Nat)  (l0 : Value) (l1 : Value) (l2 : Value) (l3 : Value) (u : Nat) (L st : List Value) (h : vmH) (Q : vmO → vmH → Prop) (_ : u < 3000000), Wp d y pc (l0 :: l1 :: l2 :: l3 :: .ref u :: L) st h Q = Wp d y nx (l0 :: l1 :: l2 :: l3 :: .ref u :: L) (.ref u :: st) h Q
theorem o_rl4 {y : vmM} {pc nx b : Nat} (ht : vmTab y pc = some (2, nx, 0, 4, 2, [])) : P_rl4 y pc nx b := by
  intro d l0 l1 l2 l3 u L st h Q hu
  refine wp_step ht (fun z => by cases z) (fun z => by cases z) (fun z => by cases z) ?_
  show (if vmKind 2 (.ref u) then _ else _) = _
  rw [if_pos (show vmKind 2 (.ref u) = true from (Nat.blt_eq).mpr hu)]
abbrev P_is4 (y : vmM) (pc nx b : Nat) : Prop := ∀ (d : Nat)  (l0 : Value) (l1 : Value) (l2 : Value) (l3 : Value) (m0 : Value) (u : Int) (L st : List Value) (h : vmH) (Q : vmO → vmH → Prop), Wp d y pc (l0 :: l1 :: l2 :: l3 :: m0 :: L) (.int (i32 u) :: st) h Q = Wp d y nx (l0 :: l1 :: l2 :: vX l3 :: .int (i32 u) :: L) st h Q
theorem o_is4 {y : vmM} {pc nx b : Nat} (ht : vmTab y pc = some (3, nx, 0, 4, 0, [])) : P_is4 y pc nx b := by
  intro d l0 l1 l2 l3 m0 u L st h Q
  refine wp_step ht (fun z => by cases z) (fun z => by cases z) (fun z => by cases z) ?_
  show (if 4 < ((l0 :: l1 :: l2 :: l3 :: m0 :: L)).length then some (nx, vmPut _ 4 _, st, h) else none) = _
  rw [if_pos (by simp only [List.length_cons]; omega)]
  cases l3 <;> rfl
abbrev P_ls4 (y : vmM) (pc nx b : Nat) : Prop := ∀ (d : Nat)  (l0 : Value) (l1 : Value) (l2 : Value) (l3 : Value) (m0 m1 : Value) (u : Int64) (L st : List Value) (h : vmH) (Q : vmO → vmH → Prop), Wp d y pc (l0 :: l1 :: l2 :: l3 :: m0 :: m1 :: L) (.long u :: st) h Q = Wp d y nx (l0 :: l1 :: l2 :: vX l3 :: .long u :: vmJ :: L) st h Q
theorem o_ls4 {y : vmM} {pc nx b : Nat} (ht : vmTab y pc = some (3, nx, 0, 4, 1, [])) : P_ls4 y pc nx b := by
  intro d l0 l1 l2 l3 m0 m1 u L st h Q
  refine wp_step ht (fun z => by cases z) (fun z => by cases z) (fun z => by cases z) ?_
  show (if 4 + 1 < ((l0 :: l1 :: l2 :: l3 :: m0 :: m1 :: L)).length then some (nx, vmPut2 _ 4 _, st, h) else none) = _
  rw [if_pos (by simp only [List.length_cons]; omega)]
  cases l3 <;> rfl
abbrev P_rs4 (y : vmM) (pc nx b : Nat) : Prop := ∀ (d : Nat)  (l0 : Value) (l1 : Value) (l2 : Value) (l3 : Value) (m0 : Value) (u : Nat) (L st : List Value) (h : vmH) (Q : vmO → vmH → Prop) (_ : u < 3000000), Wp d y pc (l0 :: l1 :: l2 :: l3 :: m0 :: L) (.ref u :: st) h Q = Wp d y nx (l0 :: l1 :: l2 :: vX l3 :: .ref u :: L) st h Q
theorem o_rs4 {y : vmM} {pc nx b : Nat} (ht : vmTab y pc = some (3, nx, 0, 4, 2, [])) : P_rs4 y pc nx b := by
  intro d l0 l1 l2 l3 m0 u L st h Q hu
  refine wp_step ht (fun z => by cases z) (fun z => by cases z) (fun z => by cases z) ?_
  show (if vmKind 2 (.ref u) then _ else _) = _
  rw [if_pos (show vmKind 2 (.ref u) = true from (Nat.blt_eq).mpr hu)]
  show (if 4 < ((l0 :: l1 :: l2 :: l3 :: m0 :: L)).length then some (nx, vmPut _ 4 _, st, h) else none) = _
  rw [if_pos (by simp only [List.length_cons]; omega)]
  cases l3 <;> rfl
abbrev P_inc4 (y : vmM) (pc nx b : Nat) (a : Int) : Prop := ∀ (d : Nat)  (l0 : Value) (l1 : Value) (l2 : Value) (l3 : Value) (u : Int) (L st : List Value) (h : vmH) (Q : vmO → vmH → Prop), Wp d y pc (l0 :: l1 :: l2 :: l3 :: .int (i32 u) :: L) st h Q = Wp d y nx (l0 :: l1 :: l2 :: vX l3 :: .int (i32 (u + a)) :: L) st h Q
theorem o_inc4 {a : Int} {y : vmM} {pc nx b : Nat} (ht : vmTab y pc = some (4, nx, a, 4, 0, [])) : P_inc4 y pc nx b a := by
  intro d l0 l1 l2 l3 u L st h Q
  rw [← i32_add]
  refine wp_step ht (fun z => by cases z) (fun z => by cases z) (fun z => by cases z) ?_
  show some (nx, vmPut _ 4 _, st, h) = _
  cases l3 <;> rfl
abbrev P_il5 (y : vmM) (pc nx b : Nat) : Prop := ∀ (d : Nat)  (l0 : Value) (l1 : Value) (l2 : Value) (l3 : Value) (l4 : Value) (u : Int) (L st : List Value) (h : vmH) (Q : vmO → vmH → Prop), Wp d y pc (l0 :: l1 :: l2 :: l3 :: l4 :: .int (i32 u) :: L) st h Q = Wp d y nx (l0 :: l1 :: l2 :: l3 :: l4 :: .int (i32 u) :: L) (.int (i32 u) :: st) h Q
theorem o_il5 {y : vmM} {pc nx b : Nat} (ht : vmTab y pc = some (2, nx, 0, 5, 0, [])) : P_il5 y pc nx b := by
  unfold P_il5
  intros
  refine wp_step ht (fun z => by cases z) (fun z => by cases z) (fun z => by cases z) ?_
  rfl
abbrev P_ll5 (y : vmM) (pc nx b : Nat) : Prop := ∀ (d : Nat)  (l0 : Value) (l1 : Value) (l2 : Value) (l3 : Value) (l4 : Value) (u : Int64) (L st : List Value) (h : vmH) (Q : vmO → vmH → Prop), Wp d y pc (l0 :: l1 :: l2 :: l3 :: l4 :: .long u :: L) st h Q = Wp d y nx (l0 :: l1 :: l2 :: l3 :: l4 :: .long u :: L) (.long u :: st) h Q
theorem o_ll5 {y : vmM} {pc nx b : Nat} (ht : vmTab y pc = some (2, nx, 0, 5, 1, [])) : P_ll5 y pc nx b := by
  unfold P_ll5
  intros
  refine wp_step ht (fun z => by cases z) (fun z => by cases z) (fun z => by cases z) ?_
  rfl
abbrev P_rl5 (y : vmM) (pc nx b : Nat) : Prop := ∀ (d : Nat)  (l0 : Value) (l1 : Value) (l2 : Value) (l3 : Value) (l4 : Value) (u : Nat) (L st : List Value) (h : vmH) (Q : vmO → vmH → Prop) (_ : u < 3000000), Wp d y pc (l0 :: l1 :: l2 :: l3 :: l4 :: .ref u :: L) st h Q = Wp d y nx (l0 :: l1 :: l2 :: l3 :: l4 :: .ref u :: L) (.ref u :: st) h Q
theorem o_rl5 {y : vmM} {pc nx b : Nat} (ht : vmTab y pc = some (2, nx, 0, 5, 2, [])) : P_rl5 y pc nx b := by
  intro d l0 l1 l2 l3 l4 u L st h Q hu
  refine wp_step ht (fun z => by cases z) (fun z => by cases z) (fun z => by cases z) ?_
  show (if vmKind 2 (.ref u) then _ else _) = _
  rw [if_pos (show vmKind 2 (.ref u) = true from (Nat.blt_eq).mpr hu)]
abbrev P_is5 (y : vmM) (pc nx b : Nat) : Prop := ∀ (d : Nat)  (l0 : Value) (l1 : Value) (l2 : Value) (l3 : Value) (l4 : Value) (m0 : Value) (u : Int) (L st : List Value) (h : vmH) (Q : vmO → vmH → Prop), Wp d y pc (l0 :: l1 :: l2 :: l3 :: l4 :: m0 :: L) (.int (i32 u) :: st) h Q = Wp d y nx (l0 :: l1 :: l2 :: l3 :: vX l4 :: .int (i32 u) :: L) st h Q
theorem o_is5 {y : vmM} {pc nx b : Nat} (ht : vmTab y pc = some (3, nx, 0, 5, 0, [])) : P_is5 y pc nx b := by
  intro d l0 l1 l2 l3 l4 m0 u L st h Q
  refine wp_step ht (fun z => by cases z) (fun z => by cases z) (fun z => by cases z) ?_
  show (if 5 < ((l0 :: l1 :: l2 :: l3 :: l4 :: m0 :: L)).length then some (nx, vmPut _ 5 _, st, h) else none) = _
  rw [if_pos (by simp only [List.length_cons]; omega)]
  cases l4 <;> rfl
abbrev P_ls5 (y : vmM) (pc nx b : Nat) : Prop := ∀ (d : Nat)  (l0 : Value) (l1 : Value) (l2 : Value) (l3 : Value) (l4 : Value) (m0 m1 : Value) (u : Int64) (L st : List Value) (h : vmH) (Q : vmO → vmH → Prop), Wp d y pc (l0 :: l1 :: l2 :: l3 :: l4 :: m0 :: m1 :: L) (.long u :: st) h Q = Wp d y nx (l0 :: l1 :: l2 :: l3 :: vX l4 :: .long u :: vmJ :: L) st h Q
theorem o_ls5 {y : vmM} {pc nx b : Nat} (ht : vmTab y pc = some (3, nx, 0, 5, 1, [])) : P_ls5 y pc nx b := by
  intro d l0 l1 l2 l3 l4 m0 m1 u L st h Q
  refine wp_step ht (fun z => by cases z) (fun z => by cases z) (fun z => by cases z) ?_
  show (if 5 + 1 < ((l0 :: l1 :: l2 :: l3 :: l4 :: m0 :: m1 :: L)).length then some (nx, vmPut2 _ 5 _, st, h) else none) = _
  rw [if_pos (by simp only [List.length_cons]; omega)]
  cases l4 <;> rfl
abbrev P_rs5 (y : vmM) (pc nx b : Nat) : Prop := ∀ (d : Nat)  (l0 : Value) (l1 : Value) (l2 : Value) (l3 : Value) (l4 : Value) (m0 : Value) (u : Nat) (L st : List Value) (h : vmH) (Q : vmO → vmH → Prop) (_ : u < 3000000), Wp d y pc (l0 :: l1 :: l2 :: l3 :: l4 :: m0 :: L) (.ref u :: st) h Q = Wp d y nx (l0 :: l1 :: l2 :: l3 :: vX l4 :: .ref u :: L) st h Q
theorem o_rs5 {y : vmM} {pc nx b : Nat} (ht : vmTab y pc = some (3, nx, 0, 5, 2, [])) : P_rs5 y pc nx b := by
  intro d l0 l1 l2 l3 l4 m0 u L st h Q hu
  refine wp_step ht (fun z => by cases z) (fun z => by cases z) (fun z => by cases z) ?_
  show (if vmKind 2 (.ref u) then _ else _) = _
  rw [if_pos (show vmKind 2 (.ref u) = true from (Nat.blt_eq).mpr hu)]
  show (if 5 < ((l0 :: l1 :: l2 :: l3 :: l4 :: m0 :: L)).length then some (nx, vmPut _ 5 _, st, h) else none) = _
  rw [if_pos (by simp only [List.length_cons]; omega)]
  cases l4 <;> rfl
abbrev P_inc5 (y : vmM) (pc nx b : Nat) (a : Int) : Prop := ∀ (d : Nat)  (l0 : Value) (l1 : Value) (l2 : Value) (l3 : Value) (l4 : Value) (u : Int) (L st : List Value) (h : vmH) (Q : vmO → vmH → Prop), Wp d y pc (l0 :: l1 :: l2 :: l3 :: l4 :: .int (i32 u) :: L) st h Q = Wp d y nx (l0 :: l1 :: l2 :: l3 :: vX l4 :: .int (i32 (u + a)) :: L) st h Q
theorem o_inc5 {a : Int} {y : vmM} {pc nx b : Nat} (ht : vmTab y pc = some (4, nx, a, 5, 0, [])) : P_inc5 y pc nx b a := by
  intro d l0 l1 l2 l3 l4 u L st h Q
  rw [← i32_add]
  refine wp_step ht (fun z => by cases z) (fun z => by cases z) (fun z => by cases z) ?_
  show some (nx, vmPut _ 5 _, st, h) = _
  cases l4 <;> rfl
abbrev P_il6 (y : vmM) (pc nx b : Nat) : Prop := ∀ (d : Nat)  (l0 : Value) (l1 : Value) (l2 : Value) (l3 : Value) (l4 : Value) (l5 : Value) (u : Int) (L st : List Value) (h : vmH) (Q : vmO → vmH → Prop), Wp d y pc (l0 :: l1 :: l2 :: l3 :: l4 :: l5 :: .int (i32 u) :: L) st h Q = Wp d y nx (l0 :: l1 :: l2 :: l3 :: l4 :: l5 :: .int (i32 u) :: L) (.int (i32 u) :: st) h Q
theorem o_il6 {y : vmM} {pc nx b : Nat} (ht : vmTab y pc = some (2, nx, 0, 6, 0, [])) : P_il6 y pc nx b := by
  unfold P_il6
  intros
  refine wp_step ht (fun z => by cases z) (fun z => by cases z) (fun z => by cases z) ?_
  rfl
abbrev P_ll6 (y : vmM) (pc nx b : Nat) : Prop := ∀ (d : Nat)  (l0 : Value) (l1 : Value) (l2 : Value) (l3 : Value) (l4 : Value) (l5 : Value) (u : Int64) (L st : List Value) (h : vmH) (Q : vmO → vmH → Prop), Wp d y pc (l0 :: l1 :: l2 :: l3 :: l4 :: l5 :: .long u :: L) st h Q = Wp d y nx (l0 :: l1 :: l2 :: l3 :: l4 :: l5 :: .long u :: L) (.long u :: st) h Q
theorem o_ll6 {y : vmM} {pc nx b : Nat} (ht : vmTab y pc = some (2, nx, 0, 6, 1, [])) : P_ll6 y pc nx b := by
  unfold P_ll6
  intros
  refine wp_step ht (fun z => by cases z) (fun z => by cases z) (fun z => by cases z) ?_
  rfl
abbrev P_rl6 (y : vmM) (pc nx b : Nat) : Prop := ∀ (d : Nat)  (l0 : Value) (l1 : Value) (l2 : Value) (l3 : Value) (l4 : Value) (l5 : Value) (u : Nat) (L st : List Value) (h : vmH) (Q : vmO → vmH → Prop) (_ : u < 3000000), Wp d y pc (l0 :: l1 :: l2 :: l3 :: l4 :: l5 :: .ref u :: L) st h Q = Wp d y nx (l0 :: l1 :: l2 :: l3 :: l4 :: l5 :: .ref u :: L) (.ref u :: st) h Q
theorem o_rl6 {y : vmM} {pc nx b : Nat} (ht : vmTab y pc = some (2, nx, 0, 6, 2, [])) : P_rl6 y pc nx b := by
  intro d l0 l1 l2 l3 l4 l5 u L st h Q hu
  refine wp_step ht (fun z => by cases z) (fun z => by cases z) (fun z => by cases z) ?_
  show (if vmKind 2 (.ref u) then _ else _) = _
  rw [if_pos (show vmKind 2 (.ref u) = true from (Nat.blt_eq).mpr hu)]
abbrev P_is6 (y : vmM) (pc nx b : Nat) : Prop := ∀ (d : Nat)  (l0 : Value) (l1 : Value) (l2 : Value) (l3 : Value) (l4 : Value) (l5 : Value) (m0 : Value) (u : Int) (L st : List Value) (h : vmH) (Q : vmO → vmH → Prop), Wp d y pc (l0 :: l1 :: l2 :: l3 :: l4 :: l5 :: m0 :: L) (.int (i32 u) :: st) h Q = Wp d y nx (l0 :: l1 :: l2 :: l3 :: l4 :: vX l5 :: .int (i32 u) :: L) st h Q
theorem o_is6 {y : vmM} {pc nx b : Nat} (ht : vmTab y pc = some (3, nx, 0, 6, 0, [])) : P_is6 y pc nx b := by
  intro d l0 l1 l2 l3 l4 l5 m0 u L st h Q
  refine wp_step ht (fun z => by cases z) (fun z => by cases z) (fun z => by cases z) ?_
  show (if 6 < ((l0 :: l1 :: l2 :: l3 :: l4 :: l5 :: m0 :: L)).length then some (nx, vmPut _ 6 _, st, h) else none) = _
  rw [if_pos (by simp only [List.length_cons]; omega)]
  cases l5 <;> rfl
abbrev P_ls6 (y : vmM) (pc nx b : Nat) : Prop := ∀ (d : Nat)  (l0 : Value) (l1 : Value) (l2 : Value) (l3 : Value) (l4 : Value) (l5 : Value) (m0 m1 : Value) (u : Int64) (L st : List Value) (h : vmH) (Q : vmO → vmH → Prop), Wp d y pc (l0 :: l1 :: l2 :: l3 :: l4 :: l5 :: m0 :: m1 :: L) (.long u :: st) h Q = Wp d y nx (l0 :: l1 :: l2 :: l3 :: l4 :: vX l5 :: .long u :: vmJ :: L) st h Q
theorem o_ls6 {y : vmM} {pc nx b : Nat} (ht : vmTab y pc = some (3, nx, 0, 6, 1, [])) : P_ls6 y pc nx b := by
  intro d l0 l1 l2 l3 l4 l5 m0 m1 u L st h Q
  refine wp_step ht (fun z => by cases z) (fun z => by cases z) (fun z => by cases z) ?_
  show (if 6 + 1 < ((l0 :: l1 :: l2 :: l3 :: l4 :: l5 :: m0 :: m1 :: L)).length then some (nx, vmPut2 _ 6 _, st, h) else none) = _
  rw [if_pos (by simp only [List.length_cons]; omega)]
  cases l5 <;> rfl
abbrev P_rs6 (y : vmM) (pc nx b : Nat) : Prop := ∀ (d : Nat)  (l0 : Value) (l1 : Value) (l2 : Value) (l3 : Value) (l4 : Value) (l5 : Value) (m0 : Value) (u : Nat) (L st : List Value) (h : vmH) (Q : vmO → vmH → Prop) (_ : u < 3000000), Wp d y pc (l0 :: l1 :: l2 :: l3 :: l4 :: l5 :: m0 :: L) (.ref u :: st) h Q = Wp d y nx (l0 :: l1 :: l2 :: l3 :: l4 :: vX l5 :: .ref u :: L) st h Q
theorem o_rs6 {y : vmM} {pc nx b : Nat} (ht : vmTab y pc = some (3, nx, 0, 6, 2, [])) : P_rs6 y pc nx b := by
  intro d l0 l1 l2 l3 l4 l5 m0 u L st h Q hu
  refine wp_step ht (fun z => by cases z) (fun z => by cases z) (fun z => by cases z) ?_
  show (if vmKind 2 (.ref u) then _ else _) = _
  rw [if_pos (show vmKind 2 (.ref u) = true from (Nat.blt_eq).mpr hu)]
  show (if 6 < ((l0 :: l1 :: l2 :: l3 :: l4 :: l5 :: m0 :: L)).length then some (nx, vmPut _ 6 _, st, h) else none) = _
  rw [if_pos (by simp only [List.length_cons]; omega)]
  cases l5 <;> rfl
abbrev P_inc6 (y : vmM) (pc nx b : Nat) (a : Int) : Prop := ∀ (d : Nat)  (l0 : Value) (l1 : Value) (l2 : Value) (l3 : Value) (l4 : Value) (l5 : Value) (u : Int) (L st : List Value) (h : vmH) (Q : vmO → vmH → Prop), Wp d y pc (l0 :: l1 :: l2 :: l3 :: l4 :: l5 :: .int (i32 u) :: L) st h Q = Wp d y nx (l0 :: l1 :: l2 :: l3 :: l4 :: vX l5 :: .int (i32 (u + a)) :: L) st h Q
theorem o_inc6 {a : Int} {y : vmM} {pc nx b : Nat} (ht : vmTab y pc = some (4, nx, a, 6, 0, [])) : P_inc6 y pc nx b a := by
  intro d l0 l1 l2 l3 l4 l5 u L st h Q
  rw [← i32_add]
  refine wp_step ht (fun z => by cases z) (fun z => by cases z) (fun z => by cases z) ?_
  show some (nx, vmPut _ 6 _, st, h) = _
  cases l5 <;> rfl
abbrev P_il7 (y : vmM) (pc nx b : Nat) : Prop := ∀ (d : Nat)  (l0 : Value) (l1 : Value) (l2 : Value) (l3 : Value) (l4 : Value) (l5 : Value) (l6 : Value) (u : Int) (L st : List Value) (h : vmH) (Q : vmO → vmH → Prop), Wp d y pc (l0 :: l1 :: l2 :: l3 :: l4 :: l5 :: l6 :: .int (i32 u) :: L) st h Q = Wp d y nx (l0 :: l1 :: l2 :: l3 :: l4 :: l5 :: l6 :: .int (i32 u) :: L) (.int (i32 u) :: st) h Q
theorem o_il7 {y : vmM} {pc nx b : Nat} (ht : vmTab y pc = some (2, nx, 0, 7, 0, [])) : P_il7 y pc nx b := by
  unfold P_il7
  intros
  refine wp_step ht (fun z => by cases z) (fun z => by cases z) (fun z => by cases z) ?_
  rfl
abbrev P_ll7 (y : vmM) (pc nx b : Nat) : Prop := ∀ (d : Nat)  (l0 : Value) (l1 : Value) (l2 : Value) (l3 : Value) (l4 : Value) (l5 : Value) (l6 : Value) (u : Int64) (L st : List Value) (h : vmH) (Q : vmO → vmH → Prop), Wp d y pc (l0 :: l1 :: l2 :: l3 :: l4 :: l5 :: l6 :: .long u :: L) st h Q = Wp d y nx (l0 :: l1 :: l2 :: l3 :: l4 :: l5 :: l6 :: .long u :: L) (.long u :: st) h Q
theorem o_ll7 {y : vmM} {pc nx b : Nat} (ht : vmTab y pc = some (2, nx, 0, 7, 1, [])) : P_ll7 y pc nx b := by
  unfold P_ll7
  intros
  refine wp_step ht (fun z => by cases z) (fun z => by cases z) (fun z => by cases z) ?_
  rfl
abbrev P_rl7 (y : vmM) (pc nx b : Nat) : Prop := ∀ (d : Nat)  (l0 : Value) (l1 : Value) (l2 : Value) (l3 : Value) (l4 : Value) (l5 : Value) (l6 : Value) (u : Nat) (L st : List Value) (h : vmH) (Q : vmO → vmH → Prop) (_ : u < 3000000), Wp d y pc (l0 :: l1 :: l2 :: l3 :: l4 :: l5 :: l6 :: .ref u :: L) st h Q = Wp d y nx (l0 :: l1 :: l2 :: l3 :: l4 :: l5 :: l6 :: .ref u :: L) (.ref u :: st) h Q
theorem o_rl7 {y : vmM} {pc nx b : Nat} (ht : vmTab y pc = some (2, nx, 0, 7, 2, [])) : P_rl7 y pc nx b := by
  intro d l0 l1 l2 l3 l4 l5 l6 u L st h Q hu
  refine wp_step ht (fun z => by cases z) (fun z => by cases z) (fun z => by cases z) ?_
  show (if vmKind 2 (.ref u) then _ else _) = _
  rw [if_pos (show vmKind 2 (.ref u) = true from (Nat.blt_eq).mpr hu)]
abbrev P_is7 (y : vmM) (pc nx b : Nat) : Prop := ∀ (d : Nat)  (l0 : Value) (l1 : Value) (l2 : Value) (l3 : Value) (l4 : Value) (l5 : Value) (l6 : Value) (m0 : Value) (u : Int) (L st : List Value) (h : vmH) (Q : vmO → vmH → Prop), Wp d y pc (l0 :: l1 :: l2 :: l3 :: l4 :: l5 :: l6 :: m0 :: L) (.int (i32 u) :: st) h Q = Wp d y nx (l0 :: l1 :: l2 :: l3 :: l4 :: l5 :: vX l6 :: .int (i32 u) :: L) st h Q
theorem o_is7 {y : vmM} {pc nx b : Nat} (ht : vmTab y pc = some (3, nx, 0, 7, 0, [])) : P_is7 y pc nx b := by
  intro d l0 l1 l2 l3 l4 l5 l6 m0 u L st h Q
  refine wp_step ht (fun z => by cases z) (fun z => by cases z) (fun z => by cases z) ?_
  show (if 7 < ((l0 :: l1 :: l2 :: l3 :: l4 :: l5 :: l6 :: m0 :: L)).length then some (nx, vmPut _ 7 _, st, h) else none) = _
  rw [if_pos (by simp only [List.length_cons]; omega)]
  cases l6 <;> rfl
abbrev P_ls7 (y : vmM) (pc nx b : Nat) : Prop := ∀ (d : Nat)  (l0 : Value) (l1 : Value) (l2 : Value) (l3 : Value) (l4 : Value) (l5 : Value) (l6 : Value) (m0 m1 : Value) (u : Int64) (L st : List Value) (h : vmH) (Q : vmO → vmH → Prop), Wp d y pc (l0 :: l1 :: l2 :: l3 :: l4 :: l5 :: l6 :: m0 :: m1 :: L) (.long u :: st) h Q = Wp d y nx (l0 :: l1 :: l2 :: l3 :: l4 :: l5 :: vX l6 :: .long u :: vmJ :: L) st h Q
theorem o_ls7 {y : vmM} {pc nx b : Nat} (ht : vmTab y pc = some (3, nx, 0, 7, 1, [])) : P_ls7 y pc nx b := by
  intro d l0 l1 l2 l3 l4 l5 l6 m0 m1 u L st h Q
  refine wp_step ht (fun z => by cases z) (fun z => by cases z) (fun z => by cases z) ?_
  show (if 7 + 1 < ((l0 :: l1 :: l2 :: l3 :: l4 :: l5 :: l6 :: m0 :: m1 :: L)).length then some (nx, vmPut2 _ 7 _, st, h) else none) = _
  rw [if_pos (by simp only [List.length_cons]; omega)]
  cases l6 <;> rfl
abbrev P_rs7 (y : vmM) (pc nx b : Nat) : Prop := ∀ (d : Nat)  (l0 : Value) (l1 : Value) (l2 : Value) (l3 : Value) (l4 : Value) (l5 : Value) (l6 : Value) (m0 : Value) (u : Nat) (L st : List Value) (h : vmH) (Q : vmO → vmH → Prop) (_ : u < 3000000), Wp d y pc (l0 :: l1 :: l2 :: l3 :: l4 :: l5 :: l6 :: m0 :: L) (.ref u :: st) h Q = Wp d y nx (l0 :: l1 :: l2 :: l3 :: l4 :: l5 :: vX l6 :: .ref u :: L) st h Q
theorem o_rs7 {y : vmM} {pc nx b : Nat} (ht : vmTab y pc = some (3, nx, 0, 7, 2, [])) : P_rs7 y pc nx b := by
  intro d l0 l1 l2 l3 l4 l5 l6 m0 u L st h Q hu
  refine wp_step ht (fun z => by cases z) (fun z => by cases z) (fun z => by cases z) ?_
  show (if vmKind 2 (.ref u) then _ else _) = _
  rw [if_pos (show vmKind 2 (.ref u) = true from (Nat.blt_eq).mpr hu)]
  show (if 7 < ((l0 :: l1 :: l2 :: l3 :: l4 :: l5 :: l6 :: m0 :: L)).length then some (nx, vmPut _ 7 _, st, h) else none) = _
  rw [if_pos (by simp only [List.length_cons]; omega)]
  cases l6 <;> rfl
abbrev P_inc7 (y : vmM) (pc nx b : Nat) (a : Int) : Prop := ∀ (d : Nat)  (l0 : Value) (l1 : Value) (l2 : Value) (l3 : Value) (l4 : Value) (l5 : Value) (l6 : Value) (u : Int) (L st : List Value) (h : vmH) (Q : vmO → vmH → Prop), Wp d y pc (l0 :: l1 :: l2 :: l3 :: l4 :: l5 :: l6 :: .int (i32 u) :: L) st h Q = Wp d y nx (l0 :: l1 :: l2 :: l3 :: l4 :: l5 :: vX l6 :: .int (i32 (u + a)) :: L) st h Q
theorem o_inc7 {a : Int} {y : vmM} {pc nx b : Nat} (ht : vmTab y pc = some (4, nx, a, 7, 0, [])) : P_inc7 y pc nx b a := by
  intro d l0 l1 l2 l3 l4 l5 l6 u L st h Q
  rw [← i32_add]
  refine wp_step ht (fun z => by cases z) (fun z => by cases z) (fun z => by cases z) ?_
  show some (nx, vmPut _ 7 _, st, h) = _
  cases l6 <;> rfl
abbrev P_il8 (y : vmM) (pc nx b : Nat) : Prop := ∀ (d : Nat)  (l0 : Value) (l1 : Value) (l2 : Value) (l3 : Value) (l4 : Value) (l5 : Value) (l6 : Value) (l7 : Value) (u : Int) (L st : List Value) (h : vmH) (Q : vmO → vmH → Prop), Wp d y pc (l0 :: l1 :: l2 :: l3 :: l4 :: l5 :: l6 :: l7 :: .int (i32 u) :: L) st h Q = Wp d y nx (l0 :: l1 :: l2 :: l3 :: l4 :: l5 :: l6 :: l7 :: .int (i32 u) :: L) (.int (i32 u) :: st) h Q
theorem o_il8 {y : vmM} {pc nx b : Nat} (ht : vmTab y pc = some (2, nx, 0, 8, 0, [])) : P_il8 y pc nx b := by
  unfold P_il8
  intros
  refine wp_step ht (fun z => by cases z) (fun z => by cases z) (fun z => by cases z) ?_
  rfl
abbrev P_ll8 (y : vmM) (pc nx b : Nat) : Prop := ∀ (d : Nat)  (l0 : Value) (l1 : Value) (l2 : Value) (l3 : Value) (l4 : Value) (l5 : Value) (l6 : Value) (l7 : Value) (u : Int64) (L st : List Value) (h : vmH) (Q : vmO → vmH → Prop), Wp d y pc (l0 :: l1 :: l2 :: l3 :: l4 :: l5 :: l6 :: l7 :: .long u :: L) st h Q = Wp d y nx (l0 :: l1 :: l2 :: l3 :: l4 :: l5 :: l6 :: l7 :: .long u :: L) (.long u :: st) h Q
theorem o_ll8 {y : vmM} {pc nx b : Nat} (ht : vmTab y pc = some (2, nx, 0, 8, 1, [])) : P_ll8 y pc nx b := by
  unfold P_ll8
  intros
  refine wp_step ht (fun z => by cases z) (fun z => by cases z) (fun z => by cases z) ?_
  rfl
abbrev P_rl8 (y : vmM) (pc nx b : Nat) : Prop := ∀ (d : Nat)  (l0 : Value) (l1 : Value) (l2 : Value) (l3 : Value) (l4 : Value) (l5 : Value) (l6 : Value) (l7 : Value) (u : Nat) (L st : List Value) (h : vmH) (Q : vmO → vmH → Prop) (_ : u < 3000000), Wp d y pc (l0 :: l1 :: l2 :: l3 :: l4 :: l5 :: l6 :: l7 :: .ref u :: L) st h Q = Wp d y nx (l0 :: l1 :: l2 :: l3 :: l4 :: l5 :: l6 :: l7 :: .ref u :: L) (.ref u :: st) h Q
theorem o_rl8 {y : vmM} {pc nx b : Nat} (ht : vmTab y pc = some (2, nx, 0, 8, 2, [])) : P_rl8 y pc nx b := by
  intro d l0 l1 l2 l3 l4 l5 l6 l7 u L st h Q hu
  refine wp_step ht (fun z => by cases z) (fun z => by cases z) (fun z => by cases z) ?_
  show (if vmKind 2 (.ref u) then _ else _) = _
  rw [if_pos (show vmKind 2 (.ref u) = true from (Nat.blt_eq).mpr hu)]
abbrev P_is8 (y : vmM) (pc nx b : Nat) : Prop := ∀ (d : Nat)  (l0 : Value) (l1 : Value) (l2 : Value) (l3 : Value) (l4 : Value) (l5 : Value) (l6 : Value) (l7 : Value) (m0 : Value) (u : Int) (L st : List Value) (h : vmH) (Q : vmO → vmH → Prop), Wp d y pc (l0 :: l1 :: l2 :: l3 :: l4 :: l5 :: l6 :: l7 :: m0 :: L) (.int (i32 u) :: st) h Q = Wp d y nx (l0 :: l1 :: l2 :: l3 :: l4 :: l5 :: l6 :: vX l7 :: .int (i32 u) :: L) st h Q
theorem o_is8 {y : vmM} {pc nx b : Nat} (ht : vmTab y pc = some (3, nx, 0, 8, 0, [])) : P_is8 y pc nx b := by
  intro d l0 l1 l2 l3 l4 l5 l6 l7 m0 u L st h Q
  refine wp_step ht (fun z => by cases z) (fun z => by cases z) (fun z => by cases z) ?_
  show (if 8 < ((l0 :: l1 :: l2 :: l3 :: l4 :: l5 :: l6 :: l7 :: m0 :: L)).length then some (nx, vmPut _ 8 _, st, h) else none) = _
  rw [if_pos (by simp only [List.length_cons]; omega)]
  cases l7 <;> rfl
abbrev P_ls8 (y : vmM) (pc nx b : Nat) : Prop := ∀ (d : Nat)  (l0 : Value) (l1 : Value) (l2 : Value) (l3 : Value) (l4 : Value) (l5 : Value) (l6 : Value) (l7 : Value) (m0 m1 : Value) (u : Int64) (L st : List Value) (h : vmH) (Q : vmO → vmH → Prop), Wp d y pc (l0 :: l1 :: l2 :: l3 :: l4 :: l5 :: l6 :: l7 :: m0 :: m1 :: L) (.long u :: st) h Q = Wp d y nx (l0 :: l1 :: l2 :: l3 :: l4 :: l5 :: l6 :: vX l7 :: .long u :: vmJ :: L) st h Q
theorem o_ls8 {y : vmM} {pc nx b : Nat} (ht : vmTab y pc = some (3, nx, 0, 8, 1, [])) : P_ls8 y pc nx b := by
  intro d l0 l1 l2 l3 l4 l5 l6 l7 m0 m1 u L st h Q
  refine wp_step ht (fun z => by cases z) (fun z => by cases z) (fun z => by cases z) ?_
  show (if 8 + 1 < ((l0 :: l1 :: l2 :: l3 :: l4 :: l5 :: l6 :: l7 :: m0 :: m1 :: L)).length then some (nx, vmPut2 _ 8 _, st, h) else none) = _
  rw [if_pos (by simp only [List.length_cons]; omega)]
  cases l7 <;> rfl
abbrev P_rs8 (y : vmM) (pc nx b : Nat) : Prop := ∀ (d : Nat)  (l0 : Value) (l1 : Value) (l2 : Value) (l3 : Value) (l4 : Value) (l5 : Value) (l6 : Value) (l7 : Value) (m0 : Value) (u : Nat) (L st : List Value) (h : vmH) (Q : vmO → vmH → Prop) (_ : u < 3000000), Wp d y pc (l0 :: l1 :: l2 :: l3 :: l4 :: l5 :: l6 :: l7 :: m0 :: L) (.ref u :: st) h Q = Wp d y nx (l0 :: l1 :: l2 :: l3 :: l4 :: l5 :: l6 :: vX l7 :: .ref u :: L) st h Q
theorem o_rs8 {y : vmM} {pc nx b : Nat} (ht : vmTab y pc = some (3, nx, 0, 8, 2, [])) : P_rs8 y pc nx b := by
  intro d l0 l1 l2 l3 l4 l5 l6 l7 m0 u L st h Q hu
  refine wp_step ht (fun z => by cases z) (fun z => by cases z) (fun z => by cases z) ?_
  show (if vmKind 2 (.ref u) then _ else _) = _
  rw [if_pos (show vmKind 2 (.ref u) = true from (Nat.blt_eq).mpr hu)]
  show (if 8 < ((l0 :: l1 :: l2 :: l3 :: l4 :: l5 :: l6 :: l7 :: m0 :: L)).length then some (nx, vmPut _ 8 _, st, h) else none) = _
  rw [if_pos (by simp only [List.length_cons]; omega)]
  cases l7 <;> rfl
abbrev P_inc8 (y : vmM) (pc nx b : Nat) (a : Int) : Prop := ∀ (d : Nat)  (l0 : Value) (l1 : Value) (l2 : Value) (l3 : Value) (l4 : Value) (l5 : Value) (l6 : Value) (l7 : Value) (u : Int) (L st : List Value) (h : vmH) (Q : vmO → vmH → Prop), Wp d y pc (l0 :: l1 :: l2 :: l3 :: l4 :: l5 :: l6 :: l7 :: .int (i32 u) :: L) st h Q = Wp d y nx (l0 :: l1 :: l2 :: l3 :: l4 :: l5 :: l6 :: vX l7 :: .int (i32 (u + a)) :: L) st h Q
theorem o_inc8 {a : Int} {y : vmM} {pc nx b : Nat} (ht : vmTab y pc = some (4, nx, a, 8, 0, [])) : P_inc8 y pc nx b a := by
  intro d l0 l1 l2 l3 l4 l5 l6 l7 u L st h Q
  rw [← i32_add]
  refine wp_step ht (fun z => by cases z) (fun z => by cases z) (fun z => by cases z) ?_
  show some (nx, vmPut _ 8 _, st, h) = _
  cases l7 <;> rfl
abbrev P_il9 (y : vmM) (pc nx b : Nat) : Prop := ∀ (d : Nat)  (l0 : Value) (l1 : Value) (l2 : Value) (l3 : Value) (l4 : Value) (l5 : Value) (l6 : Value) (l7 : Value) (l8 : Value) (u : Int) (L st : List Value) (h : vmH) (Q : vmO → vmH → Prop), Wp d y pc (l0 :: l1 :: l2 :: l3 :: l4 :: l5 :: l6 :: l7 :: l8 :: .int (i32 u) :: L) st h Q = Wp d y nx (l0 :: l1 :: l2 :: l3 :: l4 :: l5 :: l6 :: l7 :: l8 :: .int (i32 u) :: L) (.int (i32 u) :: st) h Q
theorem o_il9 {y : vmM} {pc nx b : Nat} (ht : vmTab y pc = some (2, nx, 0, 9, 0, [])) : P_il9 y pc nx b := by
  unfold P_il9
  intros
  refine wp_step ht (fun z => by cases z) (fun z => by cases z) (fun z => by cases z) ?_
  rfl
abbrev P_ll9 (y : vmM) (pc nx b : Nat) : Prop := ∀ (d : Nat)  (l0 : Value) (l1 : Value) (l2 : Value) (l3 : Value) (l4 : Value) (l5 : Value) (l6 : Value) (l7 : Value) (l8 : Value) (u : Int64) (L st : List Value) (h : vmH) (Q : vmO → vmH → Prop), Wp d y pc (l0 :: l1 :: l2 :: l3 :: l4 :: l5 :: l6 :: l7 :: l8 :: .long u :: L) st h Q = Wp d y nx (l0 :: l1 :: l2 :: l3 :: l4 :: l5 :: l6 :: l7 :: l8 :: .long u :: L) (.long u :: st) h Q
theorem o_ll9 {y : vmM} {pc nx b : Nat} (ht : vmTab y pc = some (2, nx, 0, 9, 1, [])) : P_ll9 y pc nx b := by
  unfold P_ll9
  intros
  refine wp_step ht (fun z => by cases z) (fun z => by cases z) (fun z => by cases z) ?_
  rfl
abbrev P_rl9 (y : vmM) (pc nx b : Nat) : Prop := ∀ (d : Nat)  (l0 : Value) (l1 : Value) (l2 : Value) (l3 : Value) (l4 : Value) (l5 : Value) (l6 : Value) (l7 : Value) (l8 : Value) (u : Nat) (L st : List Value) (h : vmH) (Q : vmO → vmH → Prop) (_ : u < 3000000), Wp d y pc (l0 :: l1 :: l2 :: l3 :: l4 :: l5 :: l6 :: l7 :: l8 :: .ref u :: L) st h Q = Wp d y nx (l0 :: l1 :: l2 :: l3 :: l4 :: l5 :: l6 :: l7 :: l8 :: .ref u :: L) (.ref u :: st) h Q
theorem o_rl9 {y : vmM} {pc nx b : Nat} (ht : vmTab y pc = some (2, nx, 0, 9, 2, [])) : P_rl9 y pc nx b := by
  intro d l0 l1 l2 l3 l4 l5 l6 l7 l8 u L st h Q hu
  refine wp_step ht (fun z => by cases z) (fun z => by cases z) (fun z => by cases z) ?_
  show (if vmKind 2 (.ref u) then _ else _) = _
  rw [if_pos (show vmKind 2 (.ref u) = true from (Nat.blt_eq).mpr hu)]
abbrev P_is9 (y : vmM) (pc nx b : Nat) : Prop := ∀ (d : Nat)  (l0 : Value) (l1 : Value) (l2 : Value) (l3 : Value) (l4 : Value) (l5 : Value) (l6 : Value) (l7 : Value) (l8 : Value) (m0 : Value) (u : Int) (L st : List Value) (h : vmH) (Q : vmO → vmH → Prop), Wp d y pc (l0 :: l1 :: l2 :: l3 :: l4 :: l5 :: l6 :: l7 :: l8 :: m0 :: L) (.int (i32 u) :: st) h Q = Wp d y nx (l0 :: l1 :: l2 :: l3 :: l4 :: l5 :: l6 :: l7 :: vX l8 :: .int (i32 u) :: L) st h Q
theorem o_is9 {y : vmM} {pc nx b : Nat} (ht : vmTab y pc = some (3, nx, 0, 9, 0, [])) : P_is9 y pc nx b := by
  intro d l0 l1 l2 l3 l4 l5 l6 l7 l8 m0 u L st h Q
  refine wp_step ht (fun z => by cases z) (fun z => by cases z) (fun z => by cases z) ?_
  show (if 9 < ((l0 :: l1 :: l2 :: l3 :: l4 :: l5 :: l6 :: l7 :: l8 :: m0 :: L)).length then some (nx, vmPut _ 9 _, st, h) else none) = _
  rw [if_pos (by simp only [List.length_cons]; omega)]
  cases l8 <;> rfl
abbrev P_ls9 (y : vmM) (pc nx b : Nat) : Prop := ∀ (d : Nat)  (l0 : Value) (l1 : Value) (l2 : Value) (l3 : Value) (l4 : Value) (l5 : Value) (l6 : Value) (l7 : Value) (l8 : Value) (m0 m1 : Value) (u : Int64) (L st : List Value) (h : vmH) (Q : vmO → vmH → Prop), Wp d y pc (l0 :: l1 :: l2 :: l3 :: l4 :: l5 :: l6 :: l7 :: l8 :: m0 :: m1 :: L) (.long u :: st) h Q = Wp d y nx (l0 :: l1 :: l2 :: l3 :: l4 :: l5 :: l6 :: l7 :: vX l8 :: .long u :: vmJ :: L) st h Q
theorem o_ls9 {y : vmM} {pc nx b : Nat} (ht : vmTab y pc = some (3, nx, 0, 9, 1, [])) : P_ls9 y pc nx b := by
  intro d l0 l1 l2 l3 l4 l5 l6 l7 l8 m0 m1 u L st h Q
  refine wp_step ht (fun z => by cases z) (fun z => by cases z) (fun z => by cases z) ?_
  show (if 9 + 1 < ((l0 :: l1 :: l2 :: l3 :: l4 :: l5 :: l6 :: l7 :: l8 :: m0 :: m1 :: L)).length then some (nx, vmPut2 _ 9 _, st, h) else none) = _
  rw [if_pos (by simp only [List.length_cons]; omega)]
  cases l8 <;> rfl
abbrev P_rs9 (y : vmM) (pc nx b : Nat) : Prop := ∀ (d : Nat)  (l0 : Value) (l1 : Value) (l2 : Value) (l3 : Value) (l4 : Value) (l5 : Value) (l6 : Value) (l7 : Value) (l8 : Value) (m0 : Value) (u : Nat) (L st : List Value) (h : vmH) (Q : vmO → vmH → Prop) (_ : u < 3000000), Wp d y pc (l0 :: l1 :: l2 :: l3 :: l4 :: l5 :: l6 :: l7 :: l8 :: m0 :: L) (.ref u :: st) h Q = Wp d y nx (l0 :: l1 :: l2 :: l3 :: l4 :: l5 :: l6 :: l7 :: vX l8 :: .ref u :: L) st h Q
theorem o_rs9 {y : vmM} {pc nx b : Nat} (ht : vmTab y pc = some (3, nx, 0, 9, 2, [])) : P_rs9 y pc nx b := by
  intro d l0 l1 l2 l3 l4 l5 l6 l7 l8 m0 u L st h Q hu
  refine wp_step ht (fun z => by cases z) (fun z => by cases z) (fun z => by cases z) ?_
  show (if vmKind 2 (.ref u) then _ else _) = _
  rw [if_pos (show vmKind 2 (.ref u) = true from (Nat.blt_eq).mpr hu)]
  show (if 9 < ((l0 :: l1 :: l2 :: l3 :: l4 :: l5 :: l6 :: l7 :: l8 :: m0 :: L)).length then some (nx, vmPut _ 9 _, st, h) else none) = _
  rw [if_pos (by simp only [List.length_cons]; omega)]
  cases l8 <;> rfl
abbrev P_inc9 (y : vmM) (pc nx b : Nat) (a : Int) : Prop := ∀ (d : Nat)  (l0 : Value) (l1 : Value) (l2 : Value) (l3 : Value) (l4 : Value) (l5 : Value) (l6 : Value) (l7 : Value) (l8 : Value) (u : Int) (L st : List Value) (h : vmH) (Q : vmO → vmH → Prop), Wp d y pc (l0 :: l1 :: l2 :: l3 :: l4 :: l5 :: l6 :: l7 :: l8 :: .int (i32 u) :: L) st h Q = Wp d y nx (l0 :: l1 :: l2 :: l3 :: l4 :: l5 :: l6 :: l7 :: vX l8 :: .int (i32 (u + a)) :: L) st h Q
theorem o_inc9 {a : Int} {y : vmM} {pc nx b : Nat} (ht : vmTab y pc = some (4, nx, a, 9, 0, [])) : P_inc9 y pc nx b a := by
  intro d l0 l1 l2 l3 l4 l5 l6 l7 l8 u L st h Q
  rw [← i32_add]
  refine wp_step ht (fun z => by cases z) (fun z => by cases z) (fun z => by cases z) ?_
  show some (nx, vmPut _ 9 _, st, h) = _
  cases l8 <;> rfl
abbrev P_il10 (y : vmM) (pc nx b : Nat) : Prop := ∀ (d : Nat)  (l0 : Value) (l1 : Value) (l2 : Value) (l3 : Value) (l4 : Value) (l5 : Value) (l6 : Value) (l7 : Value) (l8 : Value) (l9 : Value) (u : Int) (L st : List Value) (h : vmH) (Q : vmO → vmH → Prop), Wp d y pc (l0 :: l1 :: l2 :: l3 :: l4 :: l5 :: l6 :: l7 :: l8 :: l9 :: .int (i32 u) :: L) st h Q = Wp d y nx (l0 :: l1 :: l2 :: l3 :: l4 :: l5 :: l6 :: l7 :: l8 :: l9 :: .int (i32 u) :: L) (.int (i32 u) :: st) h Q
theorem o_il10 {y : vmM} {pc nx b : Nat} (ht : vmTab y pc = some (2, nx, 0, 10, 0, [])) : P_il10 y pc nx b := by
  unfold P_il10
  intros
  refine wp_step ht (fun z => by cases z) (fun z => by cases z) (fun z => by cases z) ?_
  rfl
abbrev P_ll10 (y : vmM) (pc nx b : Nat) : Prop := ∀ (d : Nat)  (l0 : Value) (l1 : Value) (l2 : Value) (l3 : Value) (l4 : Value) (l5 : Value) (l6 : Value) (l7 : Value) (l8 : Value) (l9 : Value) (u : Int64) (L st : List Value) (h : vmH) (Q : vmO → vmH → Prop), Wp d y pc (l0 :: l1 :: l2 :: l3 :: l4 :: l5 :: l6 :: l7 :: l8 :: l9 :: .long u :: L) st h Q = Wp d y nx (l0 :: l1 :: l2 :: l3 :: l4 :: l5 :: l6 :: l7 :: l8 :: l9 :: .long u :: L) (.long u :: st) h Q
theorem o_ll10 {y : vmM} {pc nx b : Nat} (ht : vmTab y pc = some (2, nx, 0, 10, 1, [])) : P_ll10 y pc nx b := by
  unfold P_ll10
  intros
  refine wp_step ht (fun z => by cases z) (fun z => by cases z) (fun z => by cases z) ?_
  rfl
abbrev P_rl10 (y : vmM) (pc nx b : Nat) : Prop := ∀ (d : Nat)  (l0 : Value) (l1 : Value) (l2 : Value) (l3 : Value) (l4 : Value) (l5 : Value) (l6 : Value) (l7 : Value) (l8 : Value) (l9 : Value) (u : Nat) (L st : List Value) (h : vmH) (Q : vmO → vmH → Prop) (_ : u < 3000000), Wp d y pc (l0 :: l1 :: l2 :: l3 :: l4 :: l5 :: l6 :: l7 :: l8 :: l9 :: .ref u :: L) st h Q = Wp d y nx (l0 :: l1 :: l2 :: l3 :: l4 :: l5 :: l6 :: l7 :: l8 :: l9 :: .ref u :: L) (.ref u :: st) h Q
theorem o_rl10 {y : vmM} {pc nx b : Nat} (ht : vmTab y pc = some (2, nx, 0, 10, 2, [])) : P_rl10 y pc nx b := by
  intro d l0 l1 l2 l3 l4 l5 l6 l7 l8 l9 u L st h Q hu
  refine wp_step ht (fun z => by cases z) (fun z => by cases z) (fun z => by cases z) ?_
  show (if vmKind 2 (.ref u) then _ else _) = _
  rw [if_pos (show vmKind 2 (.ref u) = true from (Nat.blt_eq).mpr hu)]
abbrev P_is10 (y : vmM) (pc nx b : Nat) : Prop := ∀ (d : Nat)  (l0 : Value) (l1 : Value) (l2 : Value) (l3 : Value) (l4 : Value) (l5 : Value) (l6 : Value) (l7 : Value) (l8 : Value) (l9 : Value) (m0 : Value) (u : Int) (L st : List Value) (h : vmH) (Q : vmO → vmH → Prop), Wp d y pc (l0 :: l1 :: l2 :: l3 :: l4 :: l5 :: l6 :: l7 :: l8 :: l9 :: m0 :: L) (.int (i32 u) :: st) h Q = Wp d y nx (l0 :: l1 :: l2 :: l3 :: l4 :: l5 :: l6 :: l7 :: l8 :: vX l9 :: .int (i32 u) :: L) st h Q
theorem o_is10 {y : vmM} {pc nx b : Nat} (ht : vmTab y pc = some (3, nx, 0, 10, 0, [])) : P_is10 y pc nx b := by
  intro d l0 l1 l2 l3 l4 l5 l6 l7 l8 l9 m0 u L st h Q
  refine wp_step ht (fun z => by cases z) (fun z => by cases z) (fun z => by cases z) ?_
  show (if 10 < ((l0 :: l1 :: l2 :: l3 :: l4 :: l5 :: l6 :: l7 :: l8 :: l9 :: m0 :: L)).length then some (nx, vmPut _ 10 _, st, h) else none) = _
  rw [if_pos (by simp only [List.length_cons]; omega)]
  cases l9 <;> rfl
abbrev P_ls10 (y : vmM) (pc nx b : Nat) : Prop := ∀ (d : Nat)  (l0 : Value) (l1 : Value) (l2 : Value) (l3 : Value) (l4 : Value) (l5 : Value) (l6 : Value) (l7 : Value) (l8 : Value) (l9 : Value) (m0 m1 : Value) (u : Int64) (L st : List Value) (h : vmH) (Q : vmO → vmH → Prop), Wp d y pc (l0 :: l1 :: l2 :: l3 :: l4 :: l5 :: l6 :: l7 :: l8 :: l9 :: m0 :: m1 :: L) (.long u :: st) h Q = Wp d y nx (l0 :: l1 :: l2 :: l3 :: l4 :: l5 :: l6 :: l7 :: l8 :: vX l9 :: .long u :: vmJ :: L) st h Q
theorem o_ls10 {y : vmM} {pc nx b : Nat} (ht : vmTab y pc = some (3, nx, 0, 10, 1, [])) : P_ls10 y pc nx b := by
  intro d l0 l1 l2 l3 l4 l5 l6 l7 l8 l9 m0 m1 u L st h Q
  refine wp_step ht (fun z => by cases z) (fun z => by cases z) (fun z => by cases z) ?_
  show (if 10 + 1 < ((l0 :: l1 :: l2 :: l3 :: l4 :: l5 :: l6 :: l7 :: l8 :: l9 :: m0 :: m1 :: L)).length then some (nx, vmPut2 _ 10 _, st, h) else none) = _
  rw [if_pos (by simp only [List.length_cons]; omega)]
  cases l9 <;> rfl
abbrev P_rs10 (y : vmM) (pc nx b : Nat) : Prop := ∀ (d : Nat)  (l0 : Value) (l1 : Value) (l2 : Value) (l3 : Value) (l4 : Value) (l5 : Value) (l6 : Value) (l7 : Value) (l8 : Value) (l9 : Value) (m0 : Value) (u : Nat) (L st : List Value) (h : vmH) (Q : vmO → vmH → Prop) (_ : u < 3000000), Wp d y pc (l0 :: l1 :: l2 :: l3 :: l4 :: l5 :: l6 :: l7 :: l8 :: l9 :: m0 :: L) (.ref u :: st) h Q = Wp d y nx (l0 :: l1 :: l2 :: l3 :: l4 :: l5 :: l6 :: l7 :: l8 :: vX l9 :: .ref u :: L) st h Q
theorem o_rs10 {y : vmM} {pc nx b : Nat} (ht : vmTab y pc = some (3, nx, 0, 10, 2, [])) : P_rs10 y pc nx b := by
  intro d l0 l1 l2 l3 l4 l5 l6 l7 l8 l9 m0 u L st h Q hu
  refine wp_step ht (fun z => by cases z) (fun z => by cases z) (fun z => by cases z) ?_
  show (if vmKind 2 (.ref u) then _ else _) = _
  rw [if_pos (show vmKind 2 (.ref u) = true from (Nat.blt_eq).mpr hu)]
  show (if 10 < ((l0 :: l1 :: l2 :: l3 :: l4 :: l5 :: l6 :: l7 :: l8 :: l9 :: m0 :: L)).length then some (nx, vmPut _ 10 _, st, h) else none) = _
  rw [if_pos (by simp only [List.length_cons]; omega)]
  cases l9 <;> rfl
abbrev P_inc10 (y : vmM) (pc nx b : Nat) (a : Int) : Prop := ∀ (d : Nat)  (l0 : Value) (l1 : Value) (l2 : Value) (l3 : Value) (l4 : Value) (l5 : Value) (l6 : Value) (l7 : Value) (l8 : Value) (l9 : Value) (u : Int) (L st : List Value) (h : vmH) (Q : vmO → vmH → Prop), Wp d y pc (l0 :: l1 :: l2 :: l3 :: l4 :: l5 :: l6 :: l7 :: l8 :: l9 :: .int (i32 u) :: L) st h Q = Wp d y nx (l0 :: l1 :: l2 :: l3 :: l4 :: l5 :: l6 :: l7 :: l8 :: vX l9 :: .int (i32 (u + a)) :: L) st h Q
theorem o_inc10 {a : Int} {y : vmM} {pc nx b : Nat} (ht : vmTab y pc = some (4, nx, a, 10, 0, [])) : P_inc10 y pc nx b a := by
  intro d l0 l1 l2 l3 l4 l5 l6 l7 l8 l9 u L st h Q
  rw [← i32_add]
  refine wp_step ht (fun z => by cases z) (fun z => by cases z) (fun z => by cases z) ?_
  show some (nx, vmPut _ 10 _, st, h) = _
  cases l9 <;> rfl
abbrev P_il11 (y : vmM) (pc nx b : Nat) : Prop := ∀ (d : Nat)  (l0 : Value) (l1 : Value) (l2 : Value) (l3 : Value) (l4 : Value) (l5 : Value) (l6 : Value) (l7 : Value) (l8 : Value) (l9 : Value) (l10 : Value) (u : Int) (L st : List Value) (h : vmH) (Q : vmO → vmH → Prop), Wp d y pc (l0 :: l1 :: l2 :: l3 :: l4 :: l5 :: l6 :: l7 :: l8 :: l9 :: l10 :: .int (i32 u) :: L) st h Q = Wp d y nx (l0 :: l1 :: l2 :: l3 :: l4 :: l5 :: l6 :: l7 :: l8 :: l9 :: l10 :: .int (i32 u) :: L) (.int (i32 u) :: st) h Q
theorem o_il11 {y : vmM} {pc nx b : Nat} (ht : vmTab y pc = some (2, nx, 0, 11, 0, [])) : P_il11 y pc nx b := by
  unfold P_il11
  intros
  refine wp_step ht (fun z => by cases z) (fun z => by cases z) (fun z => by cases z) ?_
  rfl
abbrev P_ll11 (y : vmM) (pc nx b : Nat) : Prop := ∀ (d : Nat)  (l0 : Value) (l1 : Value) (l2 : Value) (l3 : Value) (l4 : Value) (l5 : Value) (l6 : Value) (l7 : Value) (l8 : Value) (l9 : Value) (l10 : Value) (u : Int64) (L st : List Value) (h : vmH) (Q : vmO → vmH → Prop), Wp d y pc (l0 :: l1 :: l2 :: l3 :: l4 :: l5 :: l6 :: l7 :: l8 :: l9 :: l10 :: .long u :: L) st h Q = Wp d y nx (l0 :: l1 :: l2 :: l3 :: l4 :: l5 :: l6 :: l7 :: l8 :: l9 :: l10 :: .long u :: L) (.long u :: st) h Q
theorem o_ll11 {y : vmM} {pc nx b : Nat} (ht : vmTab y pc = some (2, nx, 0, 11, 1, [])) : P_ll11 y pc nx b := by
  unfold P_ll11
  intros
  refine wp_step ht (fun z => by cases z) (fun z => by cases z) (fun z => by cases z) ?_
  rfl
abbrev P_rl11 (y : vmM) (pc nx b : Nat) : Prop := ∀ (d : Nat)  (l0 : Value) (l1 : Value) (l2 : Value) (l3 : Value) (l4 : Value) (l5 : Value) (l6 : Value) (l7 : Value) (l8 : Value) (l9 : Value) (l10 : Value) (u : Nat) (L st : List Value) (h : vmH) (Q : vmO → vmH → Prop) (_ : u < 3000000), Wp d y pc (l0 :: l1 :: l2 :: l3 :: l4 :: l5 :: l6 :: l7 :: l8 :: l9 :: l10 :: .ref u :: L) st h Q = Wp d y nx (l0 :: l1 :: l2 :: l3 :: l4 :: l5 :: l6 :: l7 :: l8 :: l9 :: l10 :: .ref u :: L) (.ref u :: st) h Q
theorem o_rl11 {y : vmM} {pc nx b : Nat} (ht : vmTab y pc = some (2, nx, 0, 11, 2, [])) : P_rl11 y pc nx b := by
  intro d l0 l1 l2 l3 l4 l5 l6 l7 l8 l9 l10 u L st h Q hu
  refine wp_step ht (fun z => by cases z) (fun z => by cases z) (fun z => by cases z) ?_
  show (if vmKind 2 (.ref u) then _ else _) = _
  rw [if_pos (show vmKind 2 (.ref u) = true from (Nat.blt_eq).mpr hu)]
abbrev P_is11 (y : vmM) (pc nx b : Nat) : Prop := ∀ (d : Nat)  (l0 : Value) (l1 : Value) (l2 : Value) (l3 : Value) (l4 : Value) (l5 : Value) (l6 : Value) (l7 : Value) (l8 : Value) (l9 : Value) (l10 : Value) (m0 : Value) (u : Int) (L st : List Value) (h : vmH) (Q : vmO → vmH → Prop), Wp d y pc (l0 :: l1 :: l2 :: l3 :: l4 :: l5 :: l6 :: l7 :: l8 :: l9 :: l10 :: m0 :: L) (.int (i32 u) :: st) h Q = Wp d y nx (l0 :: l1 :: l2 :: l3 :: l4 :: l5 :: l6 :: l7 :: l8 :: l9 :: vX l10 :: .int (i32 u) :: L) st h Q
theorem o_is11 {y : vmM} {pc nx b : Nat} (ht : vmTab y pc = some (3, nx, 0, 11, 0, [])) : P_is11 y pc nx b := by
  intro d l0 l1 l2 l3 l4 l5 l6 l7 l8 l9 l10 m0 u L st h Q
  refine wp_step ht (fun z => by cases z) (fun z => by cases z) (fun z => by cases z) ?_
  show (if 11 < ((l0 :: l1 :: l2 :: l3 :: l4 :: l5 :: l6 :: l7 :: l8 :: l9 :: l10 :: m0 :: L)).length then some (nx, vmPut _ 11 _, st, h) else none) = _
  rw [if_pos (by simp only [List.length_cons]; omega)]
  cases l10 <;> rfl
abbrev P_ls11 (y : vmM) (pc nx b : Nat) : Prop := ∀ (d : Nat)  (l0 : Value) (l1 : Value) (l2 : Value) (l3 : Value) (l4 : Value) (l5 : Value) (l6 : Value) (l7 : Value) (l8 : Value) (l9 : Value) (l10 : Value) (m0 m1 : Value) (u : Int64) (L st : List Value) (h : vmH) (Q : vmO → vmH → Prop), Wp d y pc (l0 :: l1 :: l2 :: l3 :: l4 :: l5 :: l6 :: l7 :: l8 :: l9 :: l10 :: m0 :: m1 :: L) (.long u :: st) h Q = Wp d y nx (l0 :: l1 :: l2 :: l3 :: l4 :: l5 :: l6 :: l7 :: l8 :: l9 :: vX l10 :: .long u :: vmJ :: L) st h Q
theorem o_ls11 {y : vmM} {pc nx b : Nat} (ht : vmTab y pc = some (3, nx, 0, 11, 1, [])) : P_ls11 y pc nx b := by
  intro d l0 l1 l2 l3 l4 l5 l6 l7 l8 l9 l10 m0 m1 u L st h Q
  refine wp_step ht (fun z => by cases z) (fun z => by cases z) (fun z => by cases z) ?_
  show (if 11 + 1 < ((l0 :: l1 :: l2 :: l3 :: l4 :: l5 :: l6 :: l7 :: l8 :: l9 :: l10 :: m0 :: m1 :: L)).length then some (nx, vmPut2 _ 11 _, st, h) else none) = _
  rw [if_pos (by simp only [List.length_cons]; omega)]
  cases l10 <;> rfl
abbrev P_rs11 (y : vmM) (pc nx b : Nat) : Prop := ∀ (d : Nat)  (l0 : Value) (l1 : Value) (l2 : Value) (l3 : Value) (l4 : Value) (l5 : Value) (l6 : Value) (l7 : Value) (l8 : Value) (l9 : Value) (l10 : Value) (m0 : Value) (u : Nat) (L st : List Value) (h : vmH) (Q : vmO → vmH → Prop) (_ : u < 3000000), Wp d y pc (l0 :: l1 :: l2 :: l3 :: l4 :: l5 :: l6 :: l7 :: l8 :: l9 :: l10 :: m0 :: L) (.ref u :: st) h Q = Wp d y nx (l0 :: l1 :: l2 :: l3 :: l4 :: l5 :: l6 :: l7 :: l8 :: l9 :: vX l10 :: .ref u :: L) st h Q
theorem o_rs11 {y : vmM} {pc nx b : Nat} (ht : vmTab y pc = some (3, nx, 0, 11, 2, [])) : P_rs11 y pc nx b := by
  intro d l0 l1 l2 l3 l4 l5 l6 l7 l8 l9 l10 m0 u L st h Q hu
  refine wp_step ht (fun z => by cases z) (fun z => by cases z) (fun z => by cases z) ?_
  show (if vmKind 2 (.ref u) then _ else _) = _
  rw [if_pos (show vmKind 2 (.ref u) = true from (Nat.blt_eq).mpr hu)]
  show (if 11 < ((l0 :: l1 :: l2 :: l3 :: l4 :: l5 :: l6 :: l7 :: l8 :: l9 :: l10 :: m0 :: L)).length then some (nx, vmPut _ 11 _, st, h) else none) = _
  rw [if_pos (by simp only [List.length_cons]; omega)]
  cases l10 <;> rfl
abbrev P_inc11 (y : vmM) (pc nx b : Nat) (a : Int) : Prop := ∀ (d : Nat)  (l0 : Value) (l1 : Value) (l2 : Value) (l3 : Value) (l4 : Value) (l5 : Value) (l6 : Value) (l7 : Value) (l8 : Value) (l9 : Value) (l10 : Value) (u : Int) (L st : List Value) (h : vmH) (Q : vmO → vmH → Prop), Wp d y pc (l0 :: l1 :: l2 :: l3 :: l4 :: l5 :: l6 :: l7 :: l8 :: l9 :: l10 :: .int (i32 u) :: L) st h Q = Wp d y nx (l0 :: l1 :: l2 :: l3 :: l4 :: l5 :: l6 :: l7 :: l8 :: l9 :: vX l10 :: .int (i32 (u + a)) :: L) st h Q
theorem o_inc11 {a : Int} {y : vmM} {pc nx b : Nat} (ht : vmTab y pc = some (4, nx, a, 11, 0, [])) : P_inc11 y pc nx b a := by
  intro d l0 l1 l2 l3 l4 l5 l6 l7 l8 l9 l10 u L st h Q
  rw [← i32_add]
  refine wp_step ht (fun z => by cases z) (fun z => by cases z) (fun z => by cases z) ?_
  show some (nx, vmPut _ 11 _, st, h) = _
  cases l10 <;> rfl
abbrev P_il12 (y : vmM) (pc nx b : Nat) : Prop := ∀ (d : Nat)  (l0 : Value) (l1 : Value) (l2 : Value) (l3 : Value) (l4 : Value) (l5 : Value) (l6 : Value) (l7 : Value) (l8 : Value) (l9 : Value) (l10 : Value) (l11 : Value) (u : Int) (L st : List Value) (h : vmH) (Q : vmO → vmH → Prop), Wp d y pc (l0 :: l1 :: l2 :: l3 :: l4 :: l5 :: l6 :: l7 :: l8 :: l9 :: l10 :: l11 :: .int (i32 u) :: L) st h Q = Wp d y nx (l0 :: l1 :: l2 :: l3 :: l4 :: l5 :: l6 :: l7 :: l8 :: l9 :: l10 :: l11 :: .int (i32 u) :: L) (.int (i32 u) :: st) h Q
theorem o_il12 {y : vmM} {pc nx b : Nat} (ht : vmTab y pc = some (2, nx, 0, 12, 0, [])) : P_il12 y pc nx b := by
  unfold P_il12
  intros
  refine wp_step ht (fun z => by cases z) (fun z => by cases z) (fun z => by cases z) ?_
  rfl
abbrev P_ll12 (y : vmM) (pc nx b : Nat) : Prop := ∀ (d : Nat)  (l0 : Value) (l1 : Value) (l2 : Value) (l3 : Value) (l4 : Value) (l5 : Value) (l6 : Value) (l7 : Value) (l8 : Value) (l9 : Value) (l10 : Value) (l11 : Value) (u : Int64) (L st : List Value) (h : vmH) (Q : vmO → vmH → Prop), Wp d y pc (l0 :: l1 :: l2 :: l3 :: l4 :: l5 :: l6 :: l7 :: l8 :: l9 :: l10 :: l11 :: .long u :: L) st h Q = Wp d y nx (l0 :: l1 :: l2 :: l3 :: l4 :: l5 :: l6 :: l7 :: l8 :: l9 :: l10 :: l11 :: .long u :: L) (.long u :: st) h Q
theorem o_ll12 {y : vmM} {pc nx b : Nat} (ht : vmTab y pc = some (2, nx, 0, 12, 1, [])) : P_ll12 y pc nx b := by
  unfold P_ll12
  intros
  refine wp_step ht (fun z => by cases z) (fun z => by cases z) (fun z => by cases z) ?_
  rfl
abbrev P_rl12 (y : vmM) (pc nx b : Nat) : Prop := ∀ (d : Nat)  (l0 : Value) (l1 : Value) (l2 : Value) (l3 : Value) (l4 : Value) (l5 : Value) (l6 : Value) (l7 : Value) (l8 : Value) (l9 : Value) (l10 : Value) (l11 : Value) (u : Nat) (L st : List Value) (h : vmH) (Q : vmO → vmH → Prop) (_ : u < 3000000), Wp d y pc (l0 :: l1 :: l2 :: l3 :: l4 :: l5 :: l6 :: l7 :: l8 :: l9 :: l10 :: l11 :: .ref u :: L) st h Q = Wp d y nx (l0 :: l1 :: l2 :: l3 :: l4 :: l5 :: l6 :: l7 :: l8 :: l9 :: l10 :: l11 :: .ref u :: L) (.ref u :: st) h Q
theorem o_rl12 {y : vmM} {pc nx b : Nat} (ht : vmTab y pc = some (2, nx, 0, 12, 2, [])) : P_rl12 y pc nx b := by
  intro d l0 l1 l2 l3 l4 l5 l6 l7 l8 l9 l10 l11 u L st h Q hu
  refine wp_step ht (fun z => by cases z) (fun z => by cases z) (fun z => by cases z) ?_
  show (if vmKind 2 (.ref u) then _ else _) = _
  rw [if_pos (show vmKind 2 (.ref u) = true from (Nat.blt_eq).mpr hu)]
abbrev P_is12 (y : vmM) (pc nx b : Nat) : Prop := ∀ (d : Nat)  (l0 : Value) (l1 : Value) (l2 : Value) (l3 : Value) (l4 : Value) (l5 : Value) (l6 : Value) (l7 : Value) (l8 : Value) (l9 : Value) (l10 : Value) (l11 : Value) (m0 : Value) (u : Int) (L st : List Value) (h : vmH) (Q : vmO → vmH → Prop), Wp d y pc (l0 :: l1 :: l2 :: l3 :: l4 :: l5 :: l6 :: l7 :: l8 :: l9 :: l10 :: l11 :: m0 :: L) (.int (i32 u) :: st) h Q = Wp d y nx (l0 :: l1 :: l2 :: l3 :: l4 :: l5 :: l6 :: l7 :: l8 :: l9 :: l10 :: vX l11 :: .int (i32 u) :: L) st h Q
theorem o_is12 {y : vmM} {pc nx b : Nat} (ht : vmTab y pc = some (3, nx, 0, 12, 0, [])) : P_is12 y pc nx b := by
  intro d l0 l1 l2 l3 l4 l5 l6 l7 l8 l9 l10 l11 m0 u L st h Q
  refine wp_step ht (fun z => by cases z) (fun z => by cases z) (fun z => by cases z) ?_
  show (if 12 < ((l0 :: l1 :: l2 :: l3 :: l4 :: l5 :: l6 :: l7 :: l8 :: l9 :: l10 :: l11 :: m0 :: L)).length then some (nx, vmPut _ 12 _, st, h) else none) = _
  rw [if_pos (by simp only [List.length_cons]; omega)]
  cases l11 <;> rfl
abbrev P_ls12 (y : vmM) (pc nx b : Nat) : Prop := ∀ (d : Nat)  (l0 : Value) (l1 : Value) (l2 : Value) (l3 : Value) (l4 : Value) (l5 : Value) (l6 : Value) (l7 : Value) (l8 : Value) (l9 : Value) (l10 : Value) (l11 : Value) (m0 m1 : Value) (u : Int64) (L st : List Value) (h : vmH) (Q : vmO → vmH → Prop), Wp d y pc (l0 :: l1 :: l2 :: l3 :: l4 :: l5 :: l6 :: l7 :: l8 :: l9 :: l10 :: l11 :: m0 :: m1 :: L) (.long u :: st) h Q = Wp d y nx (l0 :: l1 :: l2 :: l3 :: l4 :: l5 :: l6 :: l7 :: l8 :: l9 :: l10 :: vX l11 :: .long u :: vmJ :: L) st h Q
theorem o_ls12 {y : vmM} {pc nx b : Nat} (ht : vmTab y pc = some (3, nx, 0, 12, 1, [])) : P_ls12 y pc nx b := by
  intro d l0 l1 l2 l3 l4 l5 l6 l7 l8 l9 l10 l11 m0 m1 u L st h Q
  refine wp_step ht (fun z => by cases z) (fun z => by cases z) (fun z => by cases z) ?_
  show (if 12 + 1 < ((l0 :: l1 :: l2 :: l3 :: l4 :: l5 :: l6 :: l7 :: l8 :: l9 :: l10 :: l11 :: m0 :: m1 :: L)).length then some (nx, vmPut2 _ 12 _, st, h) else none) = _
  rw [if_pos (by simp only [List.length_cons]; omega)]
  cases l11 <;> rfl
abbrev P_rs12 (y : vmM) (pc nx b : Nat) : Prop := ∀ (d : Nat)  (l0 : Value) (l1 : Value) (l2 : Value) (l3 : Value) (l4 : Value) (l5 : Value) (l6 : Value) (l7 : Value) (l8 : Value) (l9 : Value) (l10 : Value) (l11 : Value) (m0 : Value) (u : Nat) (L st : List Value) (h : vmH) (Q : vmO → vmH → Prop) (_ : u < 3000000), Wp d y pc (l0 :: l1 :: l2 :: l3 :: l4 :: l5 :: l6 :: l7 :: l8 :: l9 :: l10 :: l11 :: m0 :: L) (.ref u :: st) h Q = Wp d y nx (l0 :: l1 :: l2 :: l3 :: l4 :: l5 :: l6 :: l7 :: l8 :: l9 :: l10 :: vX l11 :: .ref u :: L) st h Q
theorem o_rs12 {y : vmM} {pc nx b : Nat} (ht : vmTab y pc = some (3, nx, 0, 12, 2, [])) : P_rs12 y pc nx b := by
  intro d l0 l1 l2 l3 l4 l5 l6 l7 l8 l9 l10 l11 m0 u L st h Q hu
  refine wp_step ht (fun z => by cases z) (fun z => by cases z) (fun z => by cases z) ?_
  show (if vmKind 2 (.ref u) then _ else _) = _
  rw [if_pos (show vmKind 2 (.ref u) = true from (Nat.blt_eq).mpr hu)]
  show (if 12 < ((l0 :: l1 :: l2 :: l3 :: l4 :: l5 :: l6 :: l7 :: l8 :: l9 :: l10 :: l11 :: m0 :: L)).length then some (nx, vmPut _ 12 _, st, h) else none) = _
  rw [if_pos (by simp only [List.length_cons]; omega)]
  cases l11 <;> rfl
abbrev P_inc12 (y : vmM) (pc nx b : Nat) (a : Int) : Prop := ∀ (d : Nat)  (l0 : Value) (l1 : Value) (l2 : Value) (l3 : Value) (l4 : Value) (l5 : Value) (l6 : Value) (l7 : Value) (l8 : Value) (l9 : Value) (l10 : Value) (l11 : Value) (u : Int) (L st : List Value) (h : vmH) (Q : vmO → vmH → Prop), Wp d y pc (l0 :: l1 :: l2 :: l3 :: l4 :: l5 :: l6 :: l7 :: l8 :: l9 :: l10 :: l11 :: .int (i32 u) :: L) st h Q = Wp d y nx (l0 :: l1 :: l2 :: l3 :: l4 :: l5 :: l6 :: l7 :: l8 :: l9 :: l10 :: vX l11 :: .int (i32 (u + a)) :: L) st h Q
theorem o_inc12 {a : Int} {y : vmM} {pc nx b : Nat} (ht : vmTab y pc = some (4, nx, a, 12, 0, [])) : P_inc12 y pc nx b a := by
  intro d l0 l1 l2 l3 l4 l5 l6 l7 l8 l9 l10 l11 u L st h Q
  rw [← i32_add]
  refine wp_step ht (fun z => by cases z) (fun z => by cases z) (fun z => by cases z) ?_
  show some (nx, vmPut _ 12 _, st, h) = _
  cases l11 <;> rfl
abbrev P_add (y : vmM) (pc nx b : Nat) : Prop := ∀ (d : Nat) (u v : Int) (L st : List Value) (h : vmH) (Q : vmO → vmH → Prop), Wp d y pc L (.int (i32 v) :: .int (i32 u) :: st) h Q = Wp d y nx L (.int (i32 (u + v)) :: st) h Q
theorem o_add {y : vmM} {pc nx b : Nat} (ht : vmTab y pc = some (5, nx, 0, 0, 0, [])) : P_add y pc nx b := by
  unfold P_add
  intros
  rw [← i32_add]
  refine wp_step ht (fun z => by cases z) (fun z => by cases z) (fun z => by cases z) ?_
  rfl
abbrev P_sub (y : vmM) (pc nx b : Nat) : Prop := ∀ (d : Nat) (u v : Int) (L st : List Value) (h : vmH) (Q : vmO → vmH → Prop), Wp d y pc L (.int (i32 v) :: .int (i32 u) :: st) h Q = Wp d y nx L (.int (i32 (u - v)) :: st) h Q
theorem o_sub {y : vmM} {pc nx b : Nat} (ht : vmTab y pc = some (5, nx, 0, 0, 1, [])) : P_sub y pc nx b := by
  unfold P_sub
  intros
  rw [← i32_sub]
  refine wp_step ht (fun z => by cases z) (fun z => by cases z) (fun z => by cases z) ?_
  rfl
abbrev P_mul (y : vmM) (pc nx b : Nat) : Prop := ∀ (d : Nat) (u v : Int) (L st : List Value) (h : vmH) (Q : vmO → vmH → Prop), Wp d y pc L (.int (i32 v) :: .int (i32 u) :: st) h Q = Wp d y nx L (.int (i32 (u * v)) :: st) h Q
theorem o_mul {y : vmM} {pc nx b : Nat} (ht : vmTab y pc = some (5, nx, 0, 0, 2, [])) : P_mul y pc nx b := by
  unfold P_mul
  intros
  rw [← i32_mul]
  refine wp_step ht (fun z => by cases z) (fun z => by cases z) (fun z => by cases z) ?_
  rfl
abbrev P_an (y : vmM) (pc nx b : Nat) : Prop := ∀ (d : Nat) (u v : Int) (L st : List Value) (h : vmH) (Q : vmO → vmH → Prop), Wp d y pc L (.int (i32 v) :: .int (i32 u) :: st) h Q = Wp d y nx L (.int (i32 (an u v)) :: st) h Q
theorem o_an {y : vmM} {pc nx b : Nat} (ht : vmTab y pc = some (5, nx, 0, 0, 3, [])) : P_an y pc nx b := by
  unfold P_an
  intros
  unfold an
  rw [i32_toInt]
  refine wp_step ht (fun z => by cases z) (fun z => by cases z) (fun z => by cases z) ?_
  rfl
abbrev P_oo (y : vmM) (pc nx b : Nat) : Prop := ∀ (d : Nat) (u v : Int) (L st : List Value) (h : vmH) (Q : vmO → vmH → Prop), Wp d y pc L (.int (i32 v) :: .int (i32 u) :: st) h Q = Wp d y nx L (.int (i32 (oo u v)) :: st) h Q
theorem o_oo {y : vmM} {pc nx b : Nat} (ht : vmTab y pc = some (5, nx, 0, 0, 4, [])) : P_oo y pc nx b := by
  unfold P_oo
  intros
  unfold oo
  rw [i32_toInt]
  refine wp_step ht (fun z => by cases z) (fun z => by cases z) (fun z => by cases z) ?_
  rfl
abbrev P_xo (y : vmM) (pc nx b : Nat) : Prop := ∀ (d : Nat) (u v : Int) (L st : List Value) (h : vmH) (Q : vmO → vmH → Prop), Wp d y pc L (.int (i32 v) :: .int (i32 u) :: st) h Q = Wp d y nx L (.int (i32 (xo u v)) :: st) h Q
theorem o_xo {y : vmM} {pc nx b : Nat} (ht : vmTab y pc = some (5, nx, 0, 0, 5, [])) : P_xo y pc nx b := by
  unfold P_xo
  intros
  unfold xo
  rw [i32_toInt]
  refine wp_step ht (fun z => by cases z) (fun z => by cases z) (fun z => by cases z) ?_
  rfl
abbrev P_sl (y : vmM) (pc nx b : Nat) : Prop := ∀ (d : Nat) (u v : Int) (L st : List Value) (h : vmH) (Q : vmO → vmH → Prop), Wp d y pc L (.int (i32 v) :: .int (i32 u) :: st) h Q = Wp d y nx L (.int (i32 (sl u v)) :: st) h Q
theorem o_sl {y : vmM} {pc nx b : Nat} (ht : vmTab y pc = some (5, nx, 0, 0, 8, [])) : P_sl y pc nx b := by
  unfold P_sl
  intros
  unfold sl
  rw [i32_toInt]
  refine wp_step ht (fun z => by cases z) (fun z => by cases z) (fun z => by cases z) ?_
  rfl
abbrev P_sr (y : vmM) (pc nx b : Nat) : Prop := ∀ (d : Nat) (u v : Int) (L st : List Value) (h : vmH) (Q : vmO → vmH → Prop), Wp d y pc L (.int (i32 v) :: .int (i32 u) :: st) h Q = Wp d y nx L (.int (i32 (sr u v)) :: st) h Q
theorem o_sr {y : vmM} {pc nx b : Nat} (ht : vmTab y pc = some (5, nx, 0, 0, 9, [])) : P_sr y pc nx b := by
  unfold P_sr
  intros
  unfold sr
  rw [i32_toInt]
  refine wp_step ht (fun z => by cases z) (fun z => by cases z) (fun z => by cases z) ?_
  rfl
abbrev P_us (y : vmM) (pc nx b : Nat) : Prop := ∀ (d : Nat) (u v : Int) (L st : List Value) (h : vmH) (Q : vmO → vmH → Prop), Wp d y pc L (.int (i32 v) :: .int (i32 u) :: st) h Q = Wp d y nx L (.int (i32 (us u v)) :: st) h Q
theorem o_us {y : vmM} {pc nx b : Nat} (ht : vmTab y pc = some (5, nx, 0, 0, 10, [])) : P_us y pc nx b := by
  unfold P_us
  intros
  unfold us
  rw [i32_toInt]
  refine wp_step ht (fun z => by cases z) (fun z => by cases z) (fun z => by cases z) ?_
  rfl
abbrev P_div (y : vmM) (pc nx b : Nat) : Prop := ∀ (d : Nat) (u v : Int) (L st : List Value) (h : vmH) (Q : vmO → vmH → Prop) (_ : 0 ≤ u) (_ : u < 2147483648) (_ : 0 < v) (_ : v < 2147483648), Wp d y pc L (.int (i32 v) :: .int (i32 u) :: st) h Q = Wp d y nx L (.int (i32 (u / v)) :: st) h Q
theorem o_div {y : vmM} {pc nx b : Nat} (ht : vmTab y pc = some (5, nx, 0, 0, 6, [])) : P_div y pc nx b := by
  intro d u v L st h Q a0 a1 b0 b1
  rw [← i32_div a0 a1 b0 b1]
  refine wp_step ht (fun z => by cases z) (fun z => by cases z) (fun z => by cases z) ?_
  show (match (if i32 v = 0 then none else some (i32 u / i32 v)) with
    | some z => some (nx, L, Value.int z :: st, h)
    | none => none) = _
  rw [if_neg (i32_nz b0 b1)]
abbrev P_rem (y : vmM) (pc nx b : Nat) : Prop := ∀ (d : Nat) (u v : Int) (L st : List Value) (h : vmH) (Q : vmO → vmH → Prop) (_ : 0 ≤ u) (_ : u < 2147483648) (_ : 0 < v) (_ : v < 2147483648), Wp d y pc L (.int (i32 v) :: .int (i32 u) :: st) h Q = Wp d y nx L (.int (i32 (u % v)) :: st) h Q
theorem o_rem {y : vmM} {pc nx b : Nat} (ht : vmTab y pc = some (5, nx, 0, 0, 7, [])) : P_rem y pc nx b := by
  intro d u v L st h Q a0 a1 b0 b1
  rw [← i32_rem a0 a1 b0 b1]
  refine wp_step ht (fun z => by cases z) (fun z => by cases z) (fun z => by cases z) ?_
  show (match (if i32 v = 0 then none else some (i32 u % i32 v)) with
    | some z => some (nx, L, Value.int z :: st, h)
    | none => none) = _
  rw [if_neg (i32_nz b0 b1)]
abbrev P_ladd (y : vmM) (pc nx b : Nat) : Prop := ∀ (d : Nat) (x z : Int64) (L st : List Value) (h : vmH) (Q : vmO → vmH → Prop), Wp d y pc L (.long z :: .long x :: st) h Q = Wp d y nx L (.long (x + z) :: st) h Q
theorem o_ladd {y : vmM} {pc nx b : Nat} (ht : vmTab y pc = some (6, nx, 0, 0, 0, [])) : P_ladd y pc nx b := by
  unfold P_ladd
  intros
  refine wp_step ht (fun z => by cases z) (fun z => by cases z) (fun z => by cases z) ?_
  rfl
abbrev P_lsub (y : vmM) (pc nx b : Nat) : Prop := ∀ (d : Nat) (x z : Int64) (L st : List Value) (h : vmH) (Q : vmO → vmH → Prop), Wp d y pc L (.long z :: .long x :: st) h Q = Wp d y nx L (.long (x - z) :: st) h Q
theorem o_lsub {y : vmM} {pc nx b : Nat} (ht : vmTab y pc = some (6, nx, 0, 0, 1, [])) : P_lsub y pc nx b := by
  unfold P_lsub
  intros
  refine wp_step ht (fun z => by cases z) (fun z => by cases z) (fun z => by cases z) ?_
  rfl
abbrev P_lmul (y : vmM) (pc nx b : Nat) : Prop := ∀ (d : Nat) (x z : Int64) (L st : List Value) (h : vmH) (Q : vmO → vmH → Prop), Wp d y pc L (.long z :: .long x :: st) h Q = Wp d y nx L (.long (x * z) :: st) h Q
theorem o_lmul {y : vmM} {pc nx b : Nat} (ht : vmTab y pc = some (6, nx, 0, 0, 2, [])) : P_lmul y pc nx b := by
  unfold P_lmul
  intros
  refine wp_step ht (fun z => by cases z) (fun z => by cases z) (fun z => by cases z) ?_
  rfl
abbrev P_land (y : vmM) (pc nx b : Nat) : Prop := ∀ (d : Nat) (x z : Int64) (L st : List Value) (h : vmH) (Q : vmO → vmH → Prop), Wp d y pc L (.long z :: .long x :: st) h Q = Wp d y nx L (.long (x &&& z) :: st) h Q
theorem o_land {y : vmM} {pc nx b : Nat} (ht : vmTab y pc = some (6, nx, 0, 0, 3, [])) : P_land y pc nx b := by
  unfold P_land
  intros
  refine wp_step ht (fun z => by cases z) (fun z => by cases z) (fun z => by cases z) ?_
  rfl
abbrev P_lor (y : vmM) (pc nx b : Nat) : Prop := ∀ (d : Nat) (x z : Int64) (L st : List Value) (h : vmH) (Q : vmO → vmH → Prop), Wp d y pc L (.long z :: .long x :: st) h Q = Wp d y nx L (.long (x ||| z) :: st) h Q
theorem o_lor {y : vmM} {pc nx b : Nat} (ht : vmTab y pc = some (6, nx, 0, 0, 4, [])) : P_lor y pc nx b := by
  unfold P_lor
  intros
  refine wp_step ht (fun z => by cases z) (fun z => by cases z) (fun z => by cases z) ?_
  rfl
abbrev P_lxor (y : vmM) (pc nx b : Nat) : Prop := ∀ (d : Nat) (x z : Int64) (L st : List Value) (h : vmH) (Q : vmO → vmH → Prop), Wp d y pc L (.long z :: .long x :: st) h Q = Wp d y nx L (.long (x ^^^ z) :: st) h Q
theorem o_lxor {y : vmM} {pc nx b : Nat} (ht : vmTab y pc = some (6, nx, 0, 0, 5, [])) : P_lxor y pc nx b := by
  unfold P_lxor
  intros
  refine wp_step ht (fun z => by cases z) (fun z => by cases z) (fun z => by cases z) ?_
  rfl
abbrev P_ldiv (y : vmM) (pc nx b : Nat) : Prop := ∀ (d : Nat) (x z : Int64) (L st : List Value) (h : vmH) (Q : vmO → vmH → Prop) (_ : ¬ z = 0), Wp d y pc L (.long z :: .long x :: st) h Q = Wp d y nx L (.long (x / z) :: st) h Q
theorem o_ldiv {y : vmM} {pc nx b : Nat} (ht : vmTab y pc = some (6, nx, 0, 0, 6, [])) : P_ldiv y pc nx b := by
  intro d x z L st h Q hz
  refine wp_step ht (fun z => by cases z) (fun z => by cases z) (fun z => by cases z) ?_
  show (match (if z = 0 then none else some (x / z)) with
    | some z => some (nx, L, Value.long z :: st, h)
    | none => none) = _
  rw [if_neg hz]
abbrev P_lrem (y : vmM) (pc nx b : Nat) : Prop := ∀ (d : Nat) (x z : Int64) (L st : List Value) (h : vmH) (Q : vmO → vmH → Prop) (_ : ¬ z = 0), Wp d y pc L (.long z :: .long x :: st) h Q = Wp d y nx L (.long (x % z) :: st) h Q
theorem o_lrem {y : vmM} {pc nx b : Nat} (ht : vmTab y pc = some (6, nx, 0, 0, 7, [])) : P_lrem y pc nx b := by
  intro d x z L st h Q hz
  refine wp_step ht (fun z => by cases z) (fun z => by cases z) (fun z => by cases z) ?_
  show (match (if z = 0 then none else some (x % z)) with
    | some z => some (nx, L, Value.long z :: st, h)
    | none => none) = _
  rw [if_neg hz]
abbrev P_ll (y : vmM) (pc nx b : Nat) : Prop := ∀ (d : Nat) (x : Int64) (v : Int) (L st : List Value) (h : vmH) (Q : vmO → vmH → Prop), Wp d y pc L (.int (i32 v) :: .long x :: st) h Q = Wp d y nx L (.long (ll x v) :: st) h Q
theorem o_ll {y : vmM} {pc nx b : Nat} (ht : vmTab y pc = some (7, nx, 0, 0, 0, [])) : P_ll y pc nx b := by
  unfold P_ll
  intros
  refine wp_step ht (fun z => by cases z) (fun z => by cases z) (fun z => by cases z) ?_
  rfl
abbrev P_lr (y : vmM) (pc nx b : Nat) : Prop := ∀ (d : Nat) (x : Int64) (v : Int) (L st : List Value) (h : vmH) (Q : vmO → vmH → Prop), Wp d y pc L (.int (i32 v) :: .long x :: st) h Q = Wp d y nx L (.long (lr x v) :: st) h Q
theorem o_lr {y : vmM} {pc nx b : Nat} (ht : vmTab y pc = some (7, nx, 0, 0, 1, [])) : P_lr y pc nx b := by
  unfold P_lr
  intros
  refine wp_step ht (fun z => by cases z) (fun z => by cases z) (fun z => by cases z) ?_
  rfl
abbrev P_lu (y : vmM) (pc nx b : Nat) : Prop := ∀ (d : Nat) (x : Int64) (v : Int) (L st : List Value) (h : vmH) (Q : vmO → vmH → Prop), Wp d y pc L (.int (i32 v) :: .long x :: st) h Q = Wp d y nx L (.long (lu x v) :: st) h Q
theorem o_lu {y : vmM} {pc nx b : Nat} (ht : vmTab y pc = some (7, nx, 0, 0, 2, [])) : P_lu y pc nx b := by
  unfold P_lu
  intros
  refine wp_step ht (fun z => by cases z) (fun z => by cases z) (fun z => by cases z) ?_
  rfl
abbrev P_i2l (y : vmM) (pc nx b : Nat) : Prop := ∀ (d : Nat) (u : Int) (L st : List Value) (h : vmH) (Q : vmO → vmH → Prop) (_ : -2147483648 ≤ u) (_ : u < 2147483648), Wp d y pc L (.int (i32 u) :: st) h Q = Wp d y nx L (.long (i64 u) :: st) h Q
theorem o_i2l {y : vmM} {pc nx b : Nat} (ht : vmTab y pc = some (8, nx, 0, 0, 0, [])) : P_i2l y pc nx b := by
  intro d u L st h Q a0 a1
  rw [← i64_64 a0 a1]
  refine wp_step ht (fun z => by cases z) (fun z => by cases z) (fun z => by cases z) ?_
  rfl
abbrev P_l2i (y : vmM) (pc nx b : Nat) : Prop := ∀ (d : Nat) (x : Int64) (L st : List Value) (h : vmH) (Q : vmO → vmH → Prop), Wp d y pc L (.long x :: st) h Q = Wp d y nx L (.int (i32 x.toInt) :: st) h Q
theorem o_l2i {y : vmM} {pc nx b : Nat} (ht : vmTab y pc = some (8, nx, 0, 0, 1, [])) : P_l2i y pc nx b := by
  unfold P_l2i
  intros
  refine wp_step ht (fun z => by cases z) (fun z => by cases z) (fun z => by cases z) ?_
  rfl
abbrev P_i2b (y : vmM) (pc nx b : Nat) : Prop := ∀ (d : Nat) (u : Int) (L st : List Value) (h : vmH) (Q : vmO → vmH → Prop), Wp d y pc L (.int (i32 u) :: st) h Q = Wp d y nx L (.int (i32 (i32 u).toInt8.toInt) :: st) h Q
theorem o_i2b {y : vmM} {pc nx b : Nat} (ht : vmTab y pc = some (8, nx, 0, 0, 2, [])) : P_i2b y pc nx b := by
  unfold P_i2b
  intros
  refine wp_step ht (fun z => by cases z) (fun z => by cases z) (fun z => by cases z) ?_
  rfl
abbrev P_i2s (y : vmM) (pc nx b : Nat) : Prop := ∀ (d : Nat) (u : Int) (L st : List Value) (h : vmH) (Q : vmO → vmH → Prop), Wp d y pc L (.int (i32 u) :: st) h Q = Wp d y nx L (.int (i32 (i32 u).toInt16.toInt) :: st) h Q
theorem o_i2s {y : vmM} {pc nx b : Nat} (ht : vmTab y pc = some (8, nx, 0, 0, 3, [])) : P_i2s y pc nx b := by
  unfold P_i2s
  intros
  refine wp_step ht (fun z => by cases z) (fun z => by cases z) (fun z => by cases z) ?_
  rfl
abbrev P_i2c (y : vmM) (pc nx b : Nat) : Prop := ∀ (d : Nat) (u : Int) (L st : List Value) (h : vmH) (Q : vmO → vmH → Prop) (_ : 0 ≤ u) (_ : u < 65536), Wp d y pc L (.int (i32 u) :: st) h Q = Wp d y nx L (.int (i32 u) :: st) h Q
theorem o_i2c {y : vmM} {pc nx b : Nat} (ht : vmTab y pc = some (8, nx, 0, 0, 4, [])) : P_i2c y pc nx b := by
  intro d u L st h Q a0 a1
  refine wp_step ht (fun z => by cases z) (fun z => by cases z) (fun z => by cases z) ?_
  show some (nx, L, Value.int ((i32 u).toUInt32 % 65536).toInt32 :: st, h) = _
  rw [i32_c a0 a1]
abbrev P_dup (y : vmM) (pc nx b : Nat) : Prop := ∀ (d : Nat) (x : Int) (L st : List Value) (h : vmH) (Q : vmO → vmH → Prop), Wp d y pc L (.int (i32 x) :: st) h Q = Wp d y nx L (.int (i32 x) :: .int (i32 x) :: st) h Q
theorem o_dup {y : vmM} {pc nx b : Nat} (ht : vmTab y pc = some (10, nx, 0, 0, 0, [])) : P_dup y pc nx b := by
  unfold P_dup
  intros
  refine wp_step ht (fun z => by cases z) (fun z => by cases z) (fun z => by cases z) ?_
  rfl
abbrev P_dupr (y : vmM) (pc nx b : Nat) : Prop := ∀ (d : Nat) (x : Nat) (L st : List Value) (h : vmH) (Q : vmO → vmH → Prop), Wp d y pc L (.ref x :: st) h Q = Wp d y nx L (.ref x :: .ref x :: st) h Q
theorem o_dupr {y : vmM} {pc nx b : Nat} (ht : vmTab y pc = some (10, nx, 0, 0, 0, [])) : P_dupr y pc nx b := by
  unfold P_dupr
  intros
  refine wp_step ht (fun z => by cases z) (fun z => by cases z) (fun z => by cases z) ?_
  rfl
abbrev P_dup2 (y : vmM) (pc nx b : Nat) : Prop := ∀ (d : Nat) (u : Int) (r : Nat) (L st : List Value) (h : vmH) (Q : vmO → vmH → Prop), Wp d y pc L (.int (i32 u) :: .ref r :: st) h Q = Wp d y nx L (.int (i32 u) :: .ref r :: .int (i32 u) :: .ref r :: st) h Q
theorem o_dup2 {y : vmM} {pc nx b : Nat} (ht : vmTab y pc = some (10, nx, 0, 0, 1, [])) : P_dup2 y pc nx b := by
  unfold P_dup2
  intros
  refine wp_step ht (fun z => by cases z) (fun z => by cases z) (fun z => by cases z) ?_
  rfl
abbrev P_dupl (y : vmM) (pc nx b : Nat) : Prop := ∀ (d : Nat) (x : Int64) (L st : List Value) (h : vmH) (Q : vmO → vmH → Prop), Wp d y pc L (.long x :: st) h Q = Wp d y nx L (.long x :: .long x :: st) h Q
theorem o_dupl {y : vmM} {pc nx b : Nat} (ht : vmTab y pc = some (10, nx, 0, 0, 2, [])) : P_dupl y pc nx b := by
  unfold P_dupl
  intros
  refine wp_step ht (fun z => by cases z) (fun z => by cases z) (fun z => by cases z) ?_
  rfl
abbrev P_pop (y : vmM) (pc nx b : Nat) : Prop := ∀ (d : Nat) (u : Int) (L st : List Value) (h : vmH) (Q : vmO → vmH → Prop), Wp d y pc L (.int (i32 u) :: st) h Q = Wp d y nx L st h Q
theorem o_pop {y : vmM} {pc nx b : Nat} (ht : vmTab y pc = some (10, nx, 0, 0, 3, [])) : P_pop y pc nx b := by
  unfold P_pop
  intros
  refine wp_step ht (fun z => by cases z) (fun z => by cases z) (fun z => by cases z) ?_
  rfl
abbrev P_popl (y : vmM) (pc nx b : Nat) : Prop := ∀ (d : Nat) (x : Int64) (L st : List Value) (h : vmH) (Q : vmO → vmH → Prop), Wp d y pc L (.long x :: st) h Q = Wp d y nx L st h Q
theorem o_popl {y : vmM} {pc nx b : Nat} (ht : vmTab y pc = some (10, nx, 0, 0, 4, [])) : P_popl y pc nx b := by
  unfold P_popl
  intros
  refine wp_step ht (fun z => by cases z) (fun z => by cases z) (fun z => by cases z) ?_
  rfl
abbrev P_go (y : vmM) (pc nx b : Nat) : Prop := ∀ (d : Nat) (L st : List Value) (h : vmH) (Q : vmO → vmH → Prop), Wp d y pc L st h Q = Wp d y b L st h Q
theorem o_go {y : vmM} {pc nx b : Nat} (ht : vmTab y pc = some (11, nx, 0, b, 0, [])) : P_go y pc nx b := by
  unfold P_go
  intros
  refine wp_step ht (fun z => by cases z) (fun z => by cases z) (fun z => by cases z) ?_
  rfl
abbrev P_ceq (y : vmM) (pc nx b : Nat) : Prop := ∀ (d : Nat) (u v : Int) (L st : List Value) (h : vmH) (Q : vmO → vmH → Prop) (_ : -2147483648 ≤ u) (_ : u < 2147483648) (_ : -2147483648 ≤ v) (_ : v < 2147483648), Wp d y pc L (.int (i32 v) :: .int (i32 u) :: st) h Q = if u = v then Wp d y b L st h Q else Wp d y nx L st h Q
theorem o_ceq {y : vmM} {pc nx b : Nat} (ht : vmTab y pc = some (13, nx, 0, b, 0, [])) : P_ceq y pc nx b := by
  intro d u v L st h Q a0 a1 b0 b1
  have hif : (i32 u = i32 v) ↔ (u = v) := (i32_ge a0 a1 b0 b1).1
  rcases Classical.em (u = v) with hc | hc
  · rw [if_pos hc]
    refine wp_step ht (fun z => by cases z) (fun z => by cases z) (fun z => by cases z) ?_
    show some (if vmIf 0 (i32 u) (i32 v) then b else nx, L, st, h) = _
    rw [if_pos (show vmIf 0 (i32 u) (i32 v) = true from decide_eq_true (hif.mpr hc))]
  · rw [if_neg hc]
    refine wp_step ht (fun z => by cases z) (fun z => by cases z) (fun z => by cases z) ?_
    show some (if vmIf 0 (i32 u) (i32 v) then b else nx, L, st, h) = _
    rw [if_neg (show ¬ vmIf 0 (i32 u) (i32 v) = true from fun z => hc (hif.mp (of_decide_eq_true z)))]
abbrev P_zeq (y : vmM) (pc nx b : Nat) : Prop := ∀ (d : Nat) (u : Int) (L st : List Value) (h : vmH) (Q : vmO → vmH → Prop) (_ : -2147483648 ≤ u) (_ : u < 2147483648), Wp d y pc L (.int (i32 u) :: st) h Q = if u = 0 then Wp d y b L st h Q else Wp d y nx L st h Q
theorem o_zeq {y : vmM} {pc nx b : Nat} (ht : vmTab y pc = some (12, nx, 0, b, 0, [])) : P_zeq y pc nx b := by
  intro d u L st h Q a0 a1
  have hif : (i32 u = i32 0) ↔ (u = 0) := (i32_ge a0 a1 (by omega : (-2147483648 : Int) ≤ 0) (by omega : (0 : Int) < 2147483648)).1
  rcases Classical.em (u = 0) with hc | hc
  · rw [if_pos hc]
    refine wp_step ht (fun z => by cases z) (fun z => by cases z) (fun z => by cases z) ?_
    show some (if vmIf 0 (i32 u) (i32 0) then b else nx, L, st, h) = _
    rw [if_pos (show vmIf 0 (i32 u) (i32 0) = true from decide_eq_true (hif.mpr hc))]
  · rw [if_neg hc]
    refine wp_step ht (fun z => by cases z) (fun z => by cases z) (fun z => by cases z) ?_
    show some (if vmIf 0 (i32 u) (i32 0) then b else nx, L, st, h) = _
    rw [if_neg (show ¬ vmIf 0 (i32 u) (i32 0) = true from fun z => hc (hif.mp (of_decide_eq_true z)))]
abbrev P_cne (y : vmM) (pc nx b : Nat) : Prop := ∀ (d : Nat) (u v : Int) (L st : List Value) (h : vmH) (Q : vmO → vmH → Prop) (_ : -2147483648 ≤ u) (_ : u < 2147483648) (_ : -2147483648 ≤ v) (_ : v < 2147483648), Wp d y pc L (.int (i32 v) :: .int (i32 u) :: st) h Q = if ¬ u = v then Wp d y b L st h Q else Wp d y nx L st h Q
theorem o_cne {y : vmM} {pc nx b : Nat} (ht : vmTab y pc = some (13, nx, 0, b, 1, [])) : P_cne y pc nx b := by
  intro d u v L st h Q a0 a1 b0 b1
  have hif : (¬ i32 u = i32 v) ↔ (¬ u = v) := not_congr (i32_ge a0 a1 b0 b1).1
  rcases Classical.em (¬ u = v) with hc | hc
  · rw [if_pos hc]
    refine wp_step ht (fun z => by cases z) (fun z => by cases z) (fun z => by cases z) ?_
    show some (if vmIf 1 (i32 u) (i32 v) then b else nx, L, st, h) = _
    rw [if_pos (show vmIf 1 (i32 u) (i32 v) = true from decide_eq_true (hif.mpr hc))]
  · rw [if_neg hc]
    refine wp_step ht (fun z => by cases z) (fun z => by cases z) (fun z => by cases z) ?_
    show some (if vmIf 1 (i32 u) (i32 v) then b else nx, L, st, h) = _
    rw [if_neg (show ¬ vmIf 1 (i32 u) (i32 v) = true from fun z => hc (hif.mp (of_decide_eq_true z)))]
abbrev P_zne (y : vmM) (pc nx b : Nat) : Prop := ∀ (d : Nat) (u : Int) (L st : List Value) (h : vmH) (Q : vmO → vmH → Prop) (_ : -2147483648 ≤ u) (_ : u < 2147483648), Wp d y pc L (.int (i32 u) :: st) h Q = if ¬ u = 0 then Wp d y b L st h Q else Wp d y nx L st h Q
theorem o_zne {y : vmM} {pc nx b : Nat} (ht : vmTab y pc = some (12, nx, 0, b, 1, [])) : P_zne y pc nx b := by
  intro d u L st h Q a0 a1
  have hif : (¬ i32 u = i32 0) ↔ (¬ u = 0) := not_congr (i32_ge a0 a1 (by omega : (-2147483648 : Int) ≤ 0) (by omega : (0 : Int) < 2147483648)).1
  rcases Classical.em (¬ u = 0) with hc | hc
  · rw [if_pos hc]
    refine wp_step ht (fun z => by cases z) (fun z => by cases z) (fun z => by cases z) ?_
    show some (if vmIf 1 (i32 u) (i32 0) then b else nx, L, st, h) = _
    rw [if_pos (show vmIf 1 (i32 u) (i32 0) = true from decide_eq_true (hif.mpr hc))]
  · rw [if_neg hc]
    refine wp_step ht (fun z => by cases z) (fun z => by cases z) (fun z => by cases z) ?_
    show some (if vmIf 1 (i32 u) (i32 0) then b else nx, L, st, h) = _
    rw [if_neg (show ¬ vmIf 1 (i32 u) (i32 0) = true from fun z => hc (hif.mp (of_decide_eq_true z)))]
abbrev P_clt (y : vmM) (pc nx b : Nat) : Prop := ∀ (d : Nat) (u v : Int) (L st : List Value) (h : vmH) (Q : vmO → vmH → Prop) (_ : -2147483648 ≤ u) (_ : u < 2147483648) (_ : -2147483648 ≤ v) (_ : v < 2147483648), Wp d y pc L (.int (i32 v) :: .int (i32 u) :: st) h Q = if u < v then Wp d y b L st h Q else Wp d y nx L st h Q
theorem o_clt {y : vmM} {pc nx b : Nat} (ht : vmTab y pc = some (13, nx, 0, b, 2, [])) : P_clt y pc nx b := by
  intro d u v L st h Q a0 a1 b0 b1
  have hif : (i32 u < i32 v) ↔ (u < v) := (i32_ge a0 a1 b0 b1).2.1
  rcases Classical.em (u < v) with hc | hc
  · rw [if_pos hc]
    refine wp_step ht (fun z => by cases z) (fun z => by cases z) (fun z => by cases z) ?_
    show some (if vmIf 2 (i32 u) (i32 v) then b else nx, L, st, h) = _
    rw [if_pos (show vmIf 2 (i32 u) (i32 v) = true from decide_eq_true (hif.mpr hc))]
  · rw [if_neg hc]
    refine wp_step ht (fun z => by cases z) (fun z => by cases z) (fun z => by cases z) ?_
    show some (if vmIf 2 (i32 u) (i32 v) then b else nx, L, st, h) = _
    rw [if_neg (show ¬ vmIf 2 (i32 u) (i32 v) = true from fun z => hc (hif.mp (of_decide_eq_true z)))]
abbrev P_zlt (y : vmM) (pc nx b : Nat) : Prop := ∀ (d : Nat) (u : Int) (L st : List Value) (h : vmH) (Q : vmO → vmH → Prop) (_ : -2147483648 ≤ u) (_ : u < 2147483648), Wp d y pc L (.int (i32 u) :: st) h Q = if u < 0 then Wp d y b L st h Q else Wp d y nx L st h Q
theorem o_zlt {y : vmM} {pc nx b : Nat} (ht : vmTab y pc = some (12, nx, 0, b, 2, [])) : P_zlt y pc nx b := by
  intro d u L st h Q a0 a1
  have hif : (i32 u < i32 0) ↔ (u < 0) := (i32_ge a0 a1 (by omega : (-2147483648 : Int) ≤ 0) (by omega : (0 : Int) < 2147483648)).2.1
  rcases Classical.em (u < 0) with hc | hc
  · rw [if_pos hc]
    refine wp_step ht (fun z => by cases z) (fun z => by cases z) (fun z => by cases z) ?_
    show some (if vmIf 2 (i32 u) (i32 0) then b else nx, L, st, h) = _
    rw [if_pos (show vmIf 2 (i32 u) (i32 0) = true from decide_eq_true (hif.mpr hc))]
  · rw [if_neg hc]
    refine wp_step ht (fun z => by cases z) (fun z => by cases z) (fun z => by cases z) ?_
    show some (if vmIf 2 (i32 u) (i32 0) then b else nx, L, st, h) = _
    rw [if_neg (show ¬ vmIf 2 (i32 u) (i32 0) = true from fun z => hc (hif.mp (of_decide_eq_true z)))]
abbrev P_cge (y : vmM) (pc nx b : Nat) : Prop := ∀ (d : Nat) (u v : Int) (L st : List Value) (h : vmH) (Q : vmO → vmH → Prop) (_ : -2147483648 ≤ u) (_ : u < 2147483648) (_ : -2147483648 ≤ v) (_ : v < 2147483648), Wp d y pc L (.int (i32 v) :: .int (i32 u) :: st) h Q = if v ≤ u then Wp d y b L st h Q else Wp d y nx L st h Q
theorem o_cge {y : vmM} {pc nx b : Nat} (ht : vmTab y pc = some (13, nx, 0, b, 3, [])) : P_cge y pc nx b := by
  intro d u v L st h Q a0 a1 b0 b1
  have hif : (i32 v ≤ i32 u) ↔ (v ≤ u) := (i32_ge b0 b1 a0 a1).2.2
  rcases Classical.em (v ≤ u) with hc | hc
  · rw [if_pos hc]
    refine wp_step ht (fun z => by cases z) (fun z => by cases z) (fun z => by cases z) ?_
    show some (if vmIf 3 (i32 u) (i32 v) then b else nx, L, st, h) = _
    rw [if_pos (show vmIf 3 (i32 u) (i32 v) = true from decide_eq_true (hif.mpr hc))]
  · rw [if_neg hc]
    refine wp_step ht (fun z => by cases z) (fun z => by cases z) (fun z => by cases z) ?_
    show some (if vmIf 3 (i32 u) (i32 v) then b else nx, L, st, h) = _
    rw [if_neg (show ¬ vmIf 3 (i32 u) (i32 v) = true from fun z => hc (hif.mp (of_decide_eq_true z)))]
abbrev P_zge (y : vmM) (pc nx b : Nat) : Prop := ∀ (d : Nat) (u : Int) (L st : List Value) (h : vmH) (Q : vmO → vmH → Prop) (_ : -2147483648 ≤ u) (_ : u < 2147483648), Wp d y pc L (.int (i32 u) :: st) h Q = if 0 ≤ u then Wp d y b L st h Q else Wp d y nx L st h Q
theorem o_zge {y : vmM} {pc nx b : Nat} (ht : vmTab y pc = some (12, nx, 0, b, 3, [])) : P_zge y pc nx b := by
  intro d u L st h Q a0 a1
  have hif : (i32 0 ≤ i32 u) ↔ (0 ≤ u) := (i32_ge (by omega : (-2147483648 : Int) ≤ 0) (by omega : (0 : Int) < 2147483648) a0 a1).2.2
  rcases Classical.em (0 ≤ u) with hc | hc
  · rw [if_pos hc]
    refine wp_step ht (fun z => by cases z) (fun z => by cases z) (fun z => by cases z) ?_
    show some (if vmIf 3 (i32 u) (i32 0) then b else nx, L, st, h) = _
    rw [if_pos (show vmIf 3 (i32 u) (i32 0) = true from decide_eq_true (hif.mpr hc))]
  · rw [if_neg hc]
    refine wp_step ht (fun z => by cases z) (fun z => by cases z) (fun z => by cases z) ?_
    show some (if vmIf 3 (i32 u) (i32 0) then b else nx, L, st, h) = _
    rw [if_neg (show ¬ vmIf 3 (i32 u) (i32 0) = true from fun z => hc (hif.mp (of_decide_eq_true z)))]
abbrev P_cgt (y : vmM) (pc nx b : Nat) : Prop := ∀ (d : Nat) (u v : Int) (L st : List Value) (h : vmH) (Q : vmO → vmH → Prop) (_ : -2147483648 ≤ u) (_ : u < 2147483648) (_ : -2147483648 ≤ v) (_ : v < 2147483648), Wp d y pc L (.int (i32 v) :: .int (i32 u) :: st) h Q = if v < u then Wp d y b L st h Q else Wp d y nx L st h Q
theorem o_cgt {y : vmM} {pc nx b : Nat} (ht : vmTab y pc = some (13, nx, 0, b, 4, [])) : P_cgt y pc nx b := by
  intro d u v L st h Q a0 a1 b0 b1
  have hif : (i32 v < i32 u) ↔ (v < u) := (i32_ge b0 b1 a0 a1).2.1
  rcases Classical.em (v < u) with hc | hc
  · rw [if_pos hc]
    refine wp_step ht (fun z => by cases z) (fun z => by cases z) (fun z => by cases z) ?_
    show some (if vmIf 4 (i32 u) (i32 v) then b else nx, L, st, h) = _
    rw [if_pos (show vmIf 4 (i32 u) (i32 v) = true from decide_eq_true (hif.mpr hc))]
  · rw [if_neg hc]
    refine wp_step ht (fun z => by cases z) (fun z => by cases z) (fun z => by cases z) ?_
    show some (if vmIf 4 (i32 u) (i32 v) then b else nx, L, st, h) = _
    rw [if_neg (show ¬ vmIf 4 (i32 u) (i32 v) = true from fun z => hc (hif.mp (of_decide_eq_true z)))]
abbrev P_zgt (y : vmM) (pc nx b : Nat) : Prop := ∀ (d : Nat) (u : Int) (L st : List Value) (h : vmH) (Q : vmO → vmH → Prop) (_ : -2147483648 ≤ u) (_ : u < 2147483648), Wp d y pc L (.int (i32 u) :: st) h Q = if 0 < u then Wp d y b L st h Q else Wp d y nx L st h Q
theorem o_zgt {y : vmM} {pc nx b : Nat} (ht : vmTab y pc = some (12, nx, 0, b, 4, [])) : P_zgt y pc nx b := by
  intro d u L st h Q a0 a1
  have hif : (i32 0 < i32 u) ↔ (0 < u) := (i32_ge (by omega : (-2147483648 : Int) ≤ 0) (by omega : (0 : Int) < 2147483648) a0 a1).2.1
  rcases Classical.em (0 < u) with hc | hc
  · rw [if_pos hc]
    refine wp_step ht (fun z => by cases z) (fun z => by cases z) (fun z => by cases z) ?_
    show some (if vmIf 4 (i32 u) (i32 0) then b else nx, L, st, h) = _
    rw [if_pos (show vmIf 4 (i32 u) (i32 0) = true from decide_eq_true (hif.mpr hc))]
  · rw [if_neg hc]
    refine wp_step ht (fun z => by cases z) (fun z => by cases z) (fun z => by cases z) ?_
    show some (if vmIf 4 (i32 u) (i32 0) then b else nx, L, st, h) = _
    rw [if_neg (show ¬ vmIf 4 (i32 u) (i32 0) = true from fun z => hc (hif.mp (of_decide_eq_true z)))]
abbrev P_cle (y : vmM) (pc nx b : Nat) : Prop := ∀ (d : Nat) (u v : Int) (L st : List Value) (h : vmH) (Q : vmO → vmH → Prop) (_ : -2147483648 ≤ u) (_ : u < 2147483648) (_ : -2147483648 ≤ v) (_ : v < 2147483648), Wp d y pc L (.int (i32 v) :: .int (i32 u) :: st) h Q = if u ≤ v then Wp d y b L st h Q else Wp d y nx L st h Q
theorem o_cle {y : vmM} {pc nx b : Nat} (ht : vmTab y pc = some (13, nx, 0, b, 5, [])) : P_cle y pc nx b := by
  intro d u v L st h Q a0 a1 b0 b1
  have hif : (i32 u ≤ i32 v) ↔ (u ≤ v) := (i32_ge a0 a1 b0 b1).2.2
  rcases Classical.em (u ≤ v) with hc | hc
  · rw [if_pos hc]
    refine wp_step ht (fun z => by cases z) (fun z => by cases z) (fun z => by cases z) ?_
    show some (if vmIf 5 (i32 u) (i32 v) then b else nx, L, st, h) = _
    rw [if_pos (show vmIf 5 (i32 u) (i32 v) = true from decide_eq_true (hif.mpr hc))]
  · rw [if_neg hc]
    refine wp_step ht (fun z => by cases z) (fun z => by cases z) (fun z => by cases z) ?_
    show some (if vmIf 5 (i32 u) (i32 v) then b else nx, L, st, h) = _
    rw [if_neg (show ¬ vmIf 5 (i32 u) (i32 v) = true from fun z => hc (hif.mp (of_decide_eq_true z)))]
abbrev P_zle (y : vmM) (pc nx b : Nat) : Prop := ∀ (d : Nat) (u : Int) (L st : List Value) (h : vmH) (Q : vmO → vmH → Prop) (_ : -2147483648 ≤ u) (_ : u < 2147483648), Wp d y pc L (.int (i32 u) :: st) h Q = if u ≤ 0 then Wp d y b L st h Q else Wp d y nx L st h Q
theorem o_zle {y : vmM} {pc nx b : Nat} (ht : vmTab y pc = some (12, nx, 0, b, 5, [])) : P_zle y pc nx b := by
  intro d u L st h Q a0 a1
  have hif : (i32 u ≤ i32 0) ↔ (u ≤ 0) := (i32_ge a0 a1 (by omega : (-2147483648 : Int) ≤ 0) (by omega : (0 : Int) < 2147483648)).2.2
  rcases Classical.em (u ≤ 0) with hc | hc
  · rw [if_pos hc]
    refine wp_step ht (fun z => by cases z) (fun z => by cases z) (fun z => by cases z) ?_
    show some (if vmIf 5 (i32 u) (i32 0) then b else nx, L, st, h) = _
    rw [if_pos (show vmIf 5 (i32 u) (i32 0) = true from decide_eq_true (hif.mpr hc))]
  · rw [if_neg hc]
    refine wp_step ht (fun z => by cases z) (fun z => by cases z) (fun z => by cases z) ?_
    show some (if vmIf 5 (i32 u) (i32 0) then b else nx, L, st, h) = _
    rw [if_neg (show ¬ vmIf 5 (i32 u) (i32 0) = true from fun z => hc (hif.mp (of_decide_eq_true z)))]
abbrev P_leq (y : vmM) (pc nx b : Nat) : Prop := ∀ (d : Nat) (x z : Int64) (L st : List Value) (h : vmH) (Q : vmO → vmH → Prop), Wp d y pc L (.long z :: .long x :: st) h Q = if x = z then Wp d y b L st h Q else Wp d y nx L st h Q
theorem o_leq {y : vmM} {pc q nx b : Nat} (ht : vmTab y pc = some (9, q, 0, 0, 0, [])) (ht2 : vmTab y q = some (12, nx, 0, b, 0, [])) : P_leq y pc nx b := by
  intro d x z L st h Q
  have hs : Wp d y pc L (.long z :: .long x :: st) h Q = Wp d y q L (.int (vmLcmp x z) :: st) h Q := wp_step ht (fun z => by cases z) (fun z => by cases z) (fun z => by cases z) rfl
  rw [hs]
  have hif : vmIf 0 (vmLcmp x z) 0 = decide (x = z) := lcmp_eq x z
  have h2 : Wp d y q L (.int (vmLcmp x z) :: st) h Q = Wp d y (if vmIf 0 (vmLcmp x z) 0 then b else nx) L st h Q := wp_step ht2 (fun z => by cases z) (fun z => by cases z) (fun z => by cases z) rfl
  rw [h2, hif]
  rcases Classical.em (x = z) with hc | hc
  · rw [if_pos hc, if_pos (decide_eq_true hc)]
  · rw [if_neg hc, if_neg (fun z => hc (of_decide_eq_true z))]
abbrev P_lne (y : vmM) (pc nx b : Nat) : Prop := ∀ (d : Nat) (x z : Int64) (L st : List Value) (h : vmH) (Q : vmO → vmH → Prop), Wp d y pc L (.long z :: .long x :: st) h Q = if ¬ x = z then Wp d y b L st h Q else Wp d y nx L st h Q
theorem o_lne {y : vmM} {pc q nx b : Nat} (ht : vmTab y pc = some (9, q, 0, 0, 0, [])) (ht2 : vmTab y q = some (12, nx, 0, b, 1, [])) : P_lne y pc nx b := by
  intro d x z L st h Q
  have hs : Wp d y pc L (.long z :: .long x :: st) h Q = Wp d y q L (.int (vmLcmp x z) :: st) h Q := wp_step ht (fun z => by cases z) (fun z => by cases z) (fun z => by cases z) rfl
  rw [hs]
  have hif : vmIf 1 (vmLcmp x z) 0 = decide (¬ x = z) := lcmp_ne x z
  have h2 : Wp d y q L (.int (vmLcmp x z) :: st) h Q = Wp d y (if vmIf 1 (vmLcmp x z) 0 then b else nx) L st h Q := wp_step ht2 (fun z => by cases z) (fun z => by cases z) (fun z => by cases z) rfl
  rw [h2, hif]
  rcases Classical.em (¬ x = z) with hc | hc
  · rw [if_pos hc, if_pos (decide_eq_true hc)]
  · rw [if_neg hc, if_neg (fun z => hc (of_decide_eq_true z))]
abbrev P_llt (y : vmM) (pc nx b : Nat) : Prop := ∀ (d : Nat) (x z : Int64) (L st : List Value) (h : vmH) (Q : vmO → vmH → Prop), Wp d y pc L (.long z :: .long x :: st) h Q = if x < z then Wp d y b L st h Q else Wp d y nx L st h Q
theorem o_llt {y : vmM} {pc q nx b : Nat} (ht : vmTab y pc = some (9, q, 0, 0, 0, [])) (ht2 : vmTab y q = some (12, nx, 0, b, 2, [])) : P_llt y pc nx b := by
  intro d x z L st h Q
  have hs : Wp d y pc L (.long z :: .long x :: st) h Q = Wp d y q L (.int (vmLcmp x z) :: st) h Q := wp_step ht (fun z => by cases z) (fun z => by cases z) (fun z => by cases z) rfl
  rw [hs]
  have hif : vmIf 2 (vmLcmp x z) 0 = decide (x < z) := lcmp_lt x z
  have h2 : Wp d y q L (.int (vmLcmp x z) :: st) h Q = Wp d y (if vmIf 2 (vmLcmp x z) 0 then b else nx) L st h Q := wp_step ht2 (fun z => by cases z) (fun z => by cases z) (fun z => by cases z) rfl
  rw [h2, hif]
  rcases Classical.em (x < z) with hc | hc
  · rw [if_pos hc, if_pos (decide_eq_true hc)]
  · rw [if_neg hc, if_neg (fun z => hc (of_decide_eq_true z))]
abbrev P_lge (y : vmM) (pc nx b : Nat) : Prop := ∀ (d : Nat) (x z : Int64) (L st : List Value) (h : vmH) (Q : vmO → vmH → Prop), Wp d y pc L (.long z :: .long x :: st) h Q = if z ≤ x then Wp d y b L st h Q else Wp d y nx L st h Q
theorem o_lge {y : vmM} {pc q nx b : Nat} (ht : vmTab y pc = some (9, q, 0, 0, 0, [])) (ht2 : vmTab y q = some (12, nx, 0, b, 3, [])) : P_lge y pc nx b := by
  intro d x z L st h Q
  have hs : Wp d y pc L (.long z :: .long x :: st) h Q = Wp d y q L (.int (vmLcmp x z) :: st) h Q := wp_step ht (fun z => by cases z) (fun z => by cases z) (fun z => by cases z) rfl
  rw [hs]
  have hif : vmIf 3 (vmLcmp x z) 0 = decide (z ≤ x) := lcmp_ge x z
  have h2 : Wp d y q L (.int (vmLcmp x z) :: st) h Q = Wp d y (if vmIf 3 (vmLcmp x z) 0 then b else nx) L st h Q := wp_step ht2 (fun z => by cases z) (fun z => by cases z) (fun z => by cases z) rfl
  rw [h2, hif]
  rcases Classical.em (z ≤ x) with hc | hc
  · rw [if_pos hc, if_pos (decide_eq_true hc)]
  · rw [if_neg hc, if_neg (fun z => hc (of_decide_eq_true z))]
abbrev P_lgt (y : vmM) (pc nx b : Nat) : Prop := ∀ (d : Nat) (x z : Int64) (L st : List Value) (h : vmH) (Q : vmO → vmH → Prop), Wp d y pc L (.long z :: .long x :: st) h Q = if z < x then Wp d y b L st h Q else Wp d y nx L st h Q
theorem o_lgt {y : vmM} {pc q nx b : Nat} (ht : vmTab y pc = some (9, q, 0, 0, 0, [])) (ht2 : vmTab y q = some (12, nx, 0, b, 4, [])) : P_lgt y pc nx b := by
  intro d x z L st h Q
  have hs : Wp d y pc L (.long z :: .long x :: st) h Q = Wp d y q L (.int (vmLcmp x z) :: st) h Q := wp_step ht (fun z => by cases z) (fun z => by cases z) (fun z => by cases z) rfl
  rw [hs]
  have hif : vmIf 4 (vmLcmp x z) 0 = decide (z < x) := lcmp_gt x z
  have h2 : Wp d y q L (.int (vmLcmp x z) :: st) h Q = Wp d y (if vmIf 4 (vmLcmp x z) 0 then b else nx) L st h Q := wp_step ht2 (fun z => by cases z) (fun z => by cases z) (fun z => by cases z) rfl
  rw [h2, hif]
  rcases Classical.em (z < x) with hc | hc
  · rw [if_pos hc, if_pos (decide_eq_true hc)]
  · rw [if_neg hc, if_neg (fun z => hc (of_decide_eq_true z))]
abbrev P_lle (y : vmM) (pc nx b : Nat) : Prop := ∀ (d : Nat) (x z : Int64) (L st : List Value) (h : vmH) (Q : vmO → vmH → Prop), Wp d y pc L (.long z :: .long x :: st) h Q = if x ≤ z then Wp d y b L st h Q else Wp d y nx L st h Q
theorem o_lle {y : vmM} {pc q nx b : Nat} (ht : vmTab y pc = some (9, q, 0, 0, 0, [])) (ht2 : vmTab y q = some (12, nx, 0, b, 5, [])) : P_lle y pc nx b := by
  intro d x z L st h Q
  have hs : Wp d y pc L (.long z :: .long x :: st) h Q = Wp d y q L (.int (vmLcmp x z) :: st) h Q := wp_step ht (fun z => by cases z) (fun z => by cases z) (fun z => by cases z) rfl
  rw [hs]
  have hif : vmIf 5 (vmLcmp x z) 0 = decide (x ≤ z) := lcmp_le x z
  have h2 : Wp d y q L (.int (vmLcmp x z) :: st) h Q = Wp d y (if vmIf 5 (vmLcmp x z) 0 then b else nx) L st h Q := wp_step ht2 (fun z => by cases z) (fun z => by cases z) (fun z => by cases z) rfl
  rw [h2, hif]
  rcases Classical.em (x ≤ z) with hc | hc
  · rw [if_pos hc, if_pos (decide_eq_true hc)]
  · rw [if_neg hc, if_neg (fun z => hc (of_decide_eq_true z))]
abbrev P_sw (y : vmM) (pc b : Nat) (sw : List (Int × Nat)) : Prop := ∀ (d : Nat) (u : Int) (L st : List Value) (h : vmH) (Q : vmO → vmH → Prop) (_ : -2147483648 ≤ u) (_ : u < 2147483648), Wp d y pc L (.int (i32 u) :: st) h Q = Wp d y (vmSwitch sw b u) L st h Q
theorem o_sw {y : vmM} {pc nx b : Nat} {sw : List (Int × Nat)} (ht : vmTab y pc = some (14, nx, 0, b, 0, sw)) : P_sw y pc b sw := by
  intro d u L st h Q a0 a1
  refine wp_step ht (fun z => by cases z) (fun z => by cases z) (fun z => by cases z) ?_
  show some (vmSwitch sw b (i32 u).toInt, L, st, h) = _
  rw [i32_i a0 a1]
