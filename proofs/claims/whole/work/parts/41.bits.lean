/-! ===== sets of cells as bits of a long ===== -/
def bs (p : Int → Bool) : Int64 := Int64.ofBitVec (BitVec.setWidth 64 (BitVec.ofBoolListLE ((List.range 64).map fun i : Nat => p (i : Int))))
theorem bs_bit {p : Int → Bool} {i : Nat} (hi : i < 64) : (bs p).toBitVec.getLsbD i = p i := by
  show (BitVec.setWidth 64 (BitVec.ofBoolListLE ((List.range 64).map fun i : Nat => p (i : Int)))).getLsbD i = _
  rw [BitVec.getLsbD_setWidth, BitVec.getLsbD_ofBoolListLE]
  rw [List.getD_eq_getElem?_getD, List.getElem?_map, List.getElem?_range hi]
  simp [hi]
theorem bs_ext {p : Int → Bool} {x : Int64} (h : ∀ i : Nat, i < 64 → x.toBitVec.getLsbD i = p i) : x = bs p :=
  Int64.toBitVec_inj.1 (BitVec.eq_of_getLsbD_eq fun i hi => by rw [h i hi, bs_bit hi])
theorem bs_congr {p q : Int → Bool} (h : ∀ k : Int, 0 ≤ k → k < 64 → p k = q k) : bs p = bs q :=
  bs_ext fun i hi => by rw [bs_bit hi]; exact h i (by omega) (by omega)
theorem bs_inj {p q : Int → Bool} (h : bs p = bs q) {k : Int} (h0 : 0 ≤ k) (h1 : k < 64) : p k = q k := by
  have := congrArg (fun x : Int64 => x.toBitVec.getLsbD k.toNat) h
  rw [bs_bit (by omega), bs_bit (by omega), show ((k.toNat : Nat) : Int) = k by omega] at this
  exact this
theorem bs_iff {p q : Int → Bool} : bs p = bs q ↔ ∀ k : Int, 0 ≤ k → k < 64 → p k = q k := ⟨fun h _ h0 h1 => bs_inj h h0 h1, bs_congr⟩
theorem bs_or {p q : Int → Bool} : bs p ||| bs q = bs (fun k => p k || q k) :=
  bs_ext fun i hi => by rw [Int64.toBitVec_or, BitVec.getLsbD_or, bs_bit hi, bs_bit hi]
theorem bs_and {p q : Int → Bool} : bs p &&& bs q = bs (fun k => p k && q k) :=
  bs_ext fun i hi => by rw [Int64.toBitVec_and, BitVec.getLsbD_and, bs_bit hi, bs_bit hi]
theorem bs_xor {p q : Int → Bool} : bs p ^^^ bs q = bs (fun k => xor (p k) (q k)) :=
  bs_ext fun i hi => by rw [Int64.toBitVec_xor, BitVec.getLsbD_xor, bs_bit hi, bs_bit hi]
theorem bs_all : i64 (-1) = bs (fun _ => true) :=
  bs_ext fun i hi => by
    show (BitVec.ofInt 64 (-1)).getLsbD i = true
    rw [show BitVec.ofInt 64 (-1) = BitVec.allOnes 64 by decide, BitVec.getLsbD_allOnes]
    simp [hi]
theorem bs_none : i64 0 = bs (fun _ => false) :=
  bs_ext fun i hi => by
    show (BitVec.ofInt 64 0).getLsbD i = false
    rw [show BitVec.ofInt 64 0 = 0#64 by decide, BitVec.getLsbD_zero]
theorem bs_not {p : Int → Bool} : bs p ^^^ i64 (-1) = bs (fun k => !p k) := by
  rw [bs_all, bs_xor]
  exact bs_congr fun k _ _ => by simp
theorem sh_amt : ∀ n : Fin 64, ((i64 (n.val : Int) &&& 63).toBitVec.smod 64) = BitVec.ofNat 64 n.val := by decide
theorem sh_am2 : ∀ n : Fin 64, ((i64 (n.val : Int)).toUInt64 &&& Int64.toUInt64 63) = UInt64.ofNat n.val := by decide
theorem ll_bit {x : Int64} {z : Int} (h0 : 0 ≤ z) (h1 : z < 64) {i : Nat} (hi : i < 64) : (ll x z).toBitVec.getLsbD i = (decide (z ≤ i) && x.toBitVec.getLsbD (i - z.toNat)) := by
  unfold ll
  rw [i64_64 (by omega) (by omega), Int64.toBitVec_shiftLeft]
  have := sh_amt ⟨z.toNat, by omega⟩
  dsimp only at this
  rw [show ((z.toNat : Nat) : Int) = z by omega] at this
  rw [this]
  show (x.toBitVec <<< (BitVec.ofNat 64 z.toNat).toNat).getLsbD i = _
  rw [BitVec.getLsbD_shiftLeft, BitVec.toNat_ofNat, Nat.mod_eq_of_lt (by omega)]
  by_cases hz : i < z.toNat
  · rw [show decide (z ≤ (i : Int)) = false from decide_eq_false (by omega)]
    simp [hz]
  · rw [show decide (z ≤ (i : Int)) = true from decide_eq_true (by omega)]
    simp [hz, hi]
theorem lu_bit {x : Int64} {z : Int} (h0 : 0 ≤ z) (h1 : z < 64) {i : Nat} : (lu x z).toBitVec.getLsbD i = x.toBitVec.getLsbD (i + z.toNat) := by
  unfold lu
  rw [i64_64 (by omega) (by omega)]
  have := sh_am2 ⟨z.toNat, by omega⟩
  dsimp only at this
  rw [show ((z.toNat : Nat) : Int) = z by omega] at this
  rw [this]
  show (x.toUInt64 >>> UInt64.ofNat z.toNat).toBitVec.getLsbD i = _
  rw [UInt64.toBitVec_shiftRight]
  show (x.toBitVec >>> ((UInt64.ofNat z.toNat).toBitVec % 64).toNat).getLsbD i = _
  rw [BitVec.getLsbD_ushiftRight, show ((UInt64.ofNat z.toNat).toBitVec % 64).toNat = z.toNat from by
    rw [BitVec.toNat_umod]
    show (UInt64.ofNat z.toNat).toNat % 64 = _
    rw [UInt64.toNat_ofNat_of_lt' (by show z.toNat < 18446744073709551616; omega)]
    omega, Nat.add_comm]
theorem lr_bit {x : Int64} {z : Int} (h0 : 0 ≤ z) (h1 : z < 64) {i : Nat} (hi : i + z.toNat < 64) : (lr x z).toBitVec.getLsbD i = x.toBitVec.getLsbD (i + z.toNat) := by
  unfold lr
  rw [i64_64 (by omega) (by omega), Int64.toBitVec_shiftRight]
  have := sh_amt ⟨z.toNat, by omega⟩
  dsimp only at this
  rw [show ((z.toNat : Nat) : Int) = z by omega] at this
  rw [this]
  show (x.toBitVec.sshiftRight (BitVec.ofNat 64 z.toNat).toNat).getLsbD i = _
  rw [BitVec.getLsbD_sshiftRight, BitVec.toNat_ofNat, Nat.mod_eq_of_lt (by omega)]
  rw [if_pos (by omega), Nat.add_comm]
  simp
  omega
theorem one_bit {i : Nat} : (i64 1).toBitVec.getLsbD i = decide (i = 0) := by
  show (BitVec.ofInt 64 1).getLsbD i = _
  rw [show BitVec.ofInt 64 1 = 1#64 by decide, BitVec.getLsbD_one]
  simp
theorem bs_1 : i64 1 = bs (fun k => decide (k = 0)) := bs_ext fun i hi => by
  rw [one_bit]
  by_cases h : i = 0
  · subst h; rfl
  · rw [decide_eq_false h, decide_eq_false (by omega)]
theorem bs_one {z : Int} (h0 : 0 ≤ z) (h1 : z < 64) : ll (i64 1) z = bs (fun k => decide (k = z)) :=
  bs_ext fun i hi => by
    rw [ll_bit h0 h1 hi, one_bit]
    by_cases h : (i : Int) = z
    · rw [decide_eq_true (by omega : z ≤ (i : Int)), decide_eq_true (by omega : i - z.toNat = 0), decide_eq_true h]; rfl
    · rw [decide_eq_false h]
      by_cases h2 : z ≤ (i : Int)
      · rw [decide_eq_false (by omega : ¬ i - z.toNat = 0), Bool.and_false]
      · rw [decide_eq_false h2, Bool.false_and]
theorem bs_shl {p : Int → Bool} {z : Int} (h0 : 0 ≤ z) (h1 : z < 64) : ll (bs p) z = bs (fun k => decide (z ≤ k) && p (k - z)) :=
  bs_ext fun i hi => by
    rw [ll_bit h0 h1 hi, bs_bit (by omega)]
    by_cases h : z ≤ (i : Int)
    · rw [show ((i - z.toNat : Nat) : Int) = (i : Int) - z by omega]
    · rw [decide_eq_false h, Bool.false_and, Bool.false_and]
theorem bs_ush {p : Int → Bool} {z : Int} (h0 : 0 ≤ z) (h1 : z < 64) : lu (bs p) z = bs (fun k => decide (k + z < 64) && p (k + z)) :=
  bs_ext fun i hi => by
    rw [lu_bit h0 h1]
    by_cases h : (i : Int) + z < 64
    · rw [bs_bit (by omega), show ((i + z.toNat : Nat) : Int) = (i : Int) + z by omega, decide_eq_true h, Bool.true_and]
    · rw [decide_eq_false h, Bool.false_and, BitVec.getLsbD_of_ge _ _ (by omega)]
theorem bs_get {p : Int → Bool} {z : Int} (h0 : 0 ≤ z) (h1 : z < 64) : lu (bs p) z &&& i64 1 = bs (fun k => decide (k = 0) && p z) :=
  bs_ext fun i hi => by
    rw [Int64.toBitVec_and, BitVec.getLsbD_and, one_bit]
    by_cases h : i = 0
    · subst h
      rw [lu_bit h0 h1, bs_bit (by omega), show ((0 + z.toNat : Nat) : Int) = z by omega]
      simp
    · rw [decide_eq_false h, decide_eq_false (by omega : ¬ (i : Int) = 0), Bool.and_false, Bool.false_and]
theorem bs_gets {p : Int → Bool} {z : Int} (h0 : 0 ≤ z) (h1 : z < 64) : lr (bs p) z &&& i64 1 = bs (fun k => decide (k = 0) && p z) :=
  bs_ext fun i hi => by
    rw [Int64.toBitVec_and, BitVec.getLsbD_and, one_bit]
    by_cases h : i = 0
    · subst h
      rw [lr_bit h0 h1 (by omega), bs_bit (by omega), show ((0 + z.toNat : Nat) : Int) = z by omega]
      simp
    · rw [decide_eq_false h, decide_eq_false (by omega : ¬ (i : Int) = 0), Bool.and_false, Bool.false_and]
theorem bs_has {p : Int → Bool} {z : Int} (h0 : 0 ≤ z) (h1 : z < 64) : (lu (bs p) z &&& i64 1 = i64 0) ↔ p z = false := by
  rw [bs_get h0 h1, bs_none, bs_iff]
  constructor
  · intro h
    have := h 0 (by omega) (by omega)
    simpa using this
  · intro h k _ _
    rw [h, Bool.and_false]
theorem bs_hass {p : Int → Bool} {z : Int} (h0 : 0 ≤ z) (h1 : z < 64) : (lr (bs p) z &&& i64 1 = i64 1) ↔ p z = true := by
  rw [bs_gets h0 h1, bs_1, bs_iff]
  constructor
  · intro h
    have := h 0 (by omega) (by omega)
    simpa using this
  · intro h k _ _
    rw [h, Bool.and_true]
theorem bs_mk (x : Int64) : x = bs (fun k => x.toBitVec.getLsbD k.toNat) := bs_ext fun i hi => by simp
