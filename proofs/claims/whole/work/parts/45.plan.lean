/-! ===== Law, Plan ===== -/
theorem i64_i {u : Int} (h0 : -9223372036854775808 ≤ u) (h1 : u < 9223372036854775808) : (i64 u).toInt = u := Int64.toInt_ofInt_of_le h0 h1
theorem i64_add {u v : Int} : i64 u + i64 v = i64 (u + v) := by
  apply Int64.toBitVec_inj.1
  show BitVec.ofInt 64 u + BitVec.ofInt 64 v = BitVec.ofInt 64 (u + v)
  rw [BitVec.ofInt_add]
theorem i64_sub {u v : Int} : i64 u - i64 v = i64 (u - v) := by
  have h : i64 u = i64 (u - v) + i64 v := by rw [i64_add, Int.sub_add_cancel]
  rw [h]
  exact Int64.add_sub_cancel _ _
theorem i64_mul {u v : Int} : i64 u * i64 v = i64 (u * v) := by
  apply Int64.toBitVec_inj.1
  show BitVec.ofInt 64 u * BitVec.ofInt 64 v = BitVec.ofInt 64 (u * v)
  rw [BitVec.ofInt_mul]
theorem i64_lt {u v : Int} (a0 : -9223372036854775808 ≤ u) (a1 : u < 9223372036854775808) (b0 : -9223372036854775808 ≤ v) (b1 : v < 9223372036854775808) : i64 u < i64 v ↔ u < v := by
  rw [Int64.lt_iff_toInt_lt, i64_i a0 a1, i64_i b0 b1]
theorem i64_le {u v : Int} (a0 : -9223372036854775808 ≤ u) (a1 : u < 9223372036854775808) (b0 : -9223372036854775808 ≤ v) (b1 : v < 9223372036854775808) : i64 u ≤ i64 v ↔ u ≤ v := by
  rw [Int64.le_iff_toInt_le, i64_i a0 a1, i64_i b0 b1]
theorem i64_eq {u v : Int} (a0 : -9223372036854775808 ≤ u) (a1 : u < 9223372036854775808) (b0 : -9223372036854775808 ≤ v) (b1 : v < 9223372036854775808) : i64 u = i64 v ↔ u = v := by
  rw [← Int64.toInt_inj, i64_i a0 a1, i64_i b0 b1]
theorem i64_min {u v : Int} (a0 : -9223372036854775808 ≤ u) (a1 : u < 9223372036854775808) (b0 : -9223372036854775808 ≤ v) (b1 : v < 9223372036854775808) : (if i64 v < i64 u then i64 v else i64 u) = i64 (min u v) := by
  by_cases h : v < u
  · rw [if_pos ((i64_lt b0 b1 a0 a1).mpr h), show min u v = v by omega]
  · rw [if_neg (fun z => h ((i64_lt b0 b1 a0 a1).mp z)), show min u v = u by omega]
theorem i64_max {u v : Int} (a0 : -9223372036854775808 ≤ u) (a1 : u < 9223372036854775808) (b0 : -9223372036854775808 ≤ v) (b1 : v < 9223372036854775808) : (if i64 u < i64 v then i64 v else i64 u) = i64 (max u v) := by
  by_cases h : u < v
  · rw [if_pos ((i64_lt a0 a1 b0 b1).mpr h), show max u v = v by omega]
  · rw [if_neg (fun z => h ((i64_lt a0 a1 b0 b1).mp z)), show max u v = u by omega]
def clm (v : Int) : Int := max (-1000000) (min 1000000 v)
def jn (c a b : Int) : Int := if c = 1007 then clm (a + b) else if c = 1008 then clm (a - b) else if c = 1009 then clm (a * b) else if c = 1010 then (if a = b then 1 else 0) else if c = 1011 then (if a < b then 1 else 0) else if c = 1012 then (if b < a then 1 else 0) else if c = 1013 then an a b else oo a b
theorem mul_b {a b : Int} (a0 : -1000000 ≤ a) (a1 : a ≤ 1000000) (b0 : -1000000 ≤ b) (b1 : b ≤ 1000000) : -1000000000000 ≤ a * b ∧ a * b ≤ 1000000000000 := by
  have h1 : a * b ≤ (a * b).natAbs := Int.le_natAbs
  have h2 : -(a * b) ≤ (a * b).natAbs := by have := Int.le_natAbs (a := -(a * b)); rwa [Int.natAbs_neg] at this
  have h3 : (a * b).natAbs ≤ 1000000 * 1000000 := by
    rw [Int.natAbs_mul]
    exact Nat.mul_le_mul (by omega) (by omega)
  omega
theorem c23 {d : Nat} {k c a b : Int} {h : vmH} {Q : vmO → vmH → Prop} (hk : 4 ≤ k) (c0 : 1007 ≤ c) (c1 : c ≤ 1014) (a0 : -1000000 ≤ a) (a1 : a ≤ 1000000) (b0 : -1000000 ≤ b) (b1 : b ≤ 1000000) : Ca d k 23 [.int (i32 c), .int (i32 a), .int (i32 b)] h Q = Q (.inl (some (.int (i32 (jn c a b))))) h := by
  have hm := mul_b a0 a1 b0 b1
  rw [n23 _ _ _ _ _ _ _ hk]
  simp (disch := (first | assumption | omega | exact Nat.le_of_ble_eq_true rfl | rfl)) only [w23_0, w23_1, w23_44, w23_45, w23_46, w23_47, w23_48, w23_49, w23_50, w23_53, w23_54, w23_55, w23_56, w23_57, w23_58, w23_59, w23_62, w23_63, w23_64, w23_65, w23_66, w23_67, w23_68, w23_71, w23_72, w23_73, w23_76, w23_77, w23_80, w23_81, w23_82, w23_83, w23_84, w23_87, w23_88, w23_91, w23_92, w23_93, w23_94, w23_95, w23_98, w23_99, w23_102, w23_103, w23_104, w23_105, w23_106, w23_107, w23_108, w23_109, w23_110, w23_111, w23_112, w23_115, w23_118, w23_119, w23_122, w23_125, w23_126, Ko_n, Ko_v, vX_i, vX_r, vX_l, vX_j, reduceIte]
  have hc : c = 1007 ∨ c = 1008 ∨ c = 1009 ∨ c = 1010 ∨ c = 1011 ∨ c = 1012 ∨ c = 1013 ∨ c = 1014 := by omega
  rcases hc with rfl | rfl | rfl | rfl | rfl | rfl | rfl | rfl
  · simp (disch := (first | assumption | omega | exact Nat.le_of_ble_eq_true rfl | rfl)) only [w23_0, w23_1, w23_44, w23_45, w23_46, w23_47, w23_48, w23_49, w23_50, w23_53, w23_54, w23_55, w23_56, w23_57, w23_58, w23_59, w23_62, w23_63, w23_64, w23_65, w23_66, w23_67, w23_68, w23_71, w23_72, w23_73, w23_76, w23_77, w23_80, w23_81, w23_82, w23_83, w23_84, w23_87, w23_88, w23_91, w23_92, w23_93, w23_94, w23_95, w23_98, w23_99, w23_102, w23_103, w23_104, w23_105, w23_106, w23_107, w23_108, w23_109, w23_110, w23_111, w23_112, w23_115, w23_118, w23_119, w23_122, w23_125, w23_126, Ko_n, Ko_v, vX_i, vX_r, vX_l, vX_j, reduceIte, vmSwitch, i64_add, i64_sub, i64_mul, i64_min, i64_max, i64_i, Int.reduceEq]
    rfl
  · simp (disch := (first | assumption | omega | exact Nat.le_of_ble_eq_true rfl | rfl)) only [w23_0, w23_1, w23_44, w23_45, w23_46, w23_47, w23_48, w23_49, w23_50, w23_53, w23_54, w23_55, w23_56, w23_57, w23_58, w23_59, w23_62, w23_63, w23_64, w23_65, w23_66, w23_67, w23_68, w23_71, w23_72, w23_73, w23_76, w23_77, w23_80, w23_81, w23_82, w23_83, w23_84, w23_87, w23_88, w23_91, w23_92, w23_93, w23_94, w23_95, w23_98, w23_99, w23_102, w23_103, w23_104, w23_105, w23_106, w23_107, w23_108, w23_109, w23_110, w23_111, w23_112, w23_115, w23_118, w23_119, w23_122, w23_125, w23_126, Ko_n, Ko_v, vX_i, vX_r, vX_l, vX_j, reduceIte, vmSwitch, i64_add, i64_sub, i64_mul, i64_min, i64_max, i64_i, Int.reduceEq]
    rfl
  · simp (disch := (first | assumption | omega | exact Nat.le_of_ble_eq_true rfl | rfl)) only [w23_0, w23_1, w23_44, w23_45, w23_46, w23_47, w23_48, w23_49, w23_50, w23_53, w23_54, w23_55, w23_56, w23_57, w23_58, w23_59, w23_62, w23_63, w23_64, w23_65, w23_66, w23_67, w23_68, w23_71, w23_72, w23_73, w23_76, w23_77, w23_80, w23_81, w23_82, w23_83, w23_84, w23_87, w23_88, w23_91, w23_92, w23_93, w23_94, w23_95, w23_98, w23_99, w23_102, w23_103, w23_104, w23_105, w23_106, w23_107, w23_108, w23_109, w23_110, w23_111, w23_112, w23_115, w23_118, w23_119, w23_122, w23_125, w23_126, Ko_n, Ko_v, vX_i, vX_r, vX_l, vX_j, reduceIte, vmSwitch, i64_add, i64_sub, i64_mul, i64_min, i64_max, i64_i, Int.reduceEq]
    rfl
  · simp (disch := (first | assumption | omega | exact Nat.le_of_ble_eq_true rfl | rfl)) only [w23_0, w23_1, w23_44, w23_45, w23_46, w23_47, w23_48, w23_49, w23_50, w23_53, w23_54, w23_55, w23_56, w23_57, w23_58, w23_59, w23_62, w23_63, w23_64, w23_65, w23_66, w23_67, w23_68, w23_71, w23_72, w23_73, w23_76, w23_77, w23_80, w23_81, w23_82, w23_83, w23_84, w23_87, w23_88, w23_91, w23_92, w23_93, w23_94, w23_95, w23_98, w23_99, w23_102, w23_103, w23_104, w23_105, w23_106, w23_107, w23_108, w23_109, w23_110, w23_111, w23_112, w23_115, w23_118, w23_119, w23_122, w23_125, w23_126, Ko_n, Ko_v, vX_i, vX_r, vX_l, vX_j, reduceIte, vmSwitch, Int.reduceEq]
    by_cases h : a = b <;> simp [h, jn]
  · simp (disch := (first | assumption | omega | exact Nat.le_of_ble_eq_true rfl | rfl)) only [w23_0, w23_1, w23_44, w23_45, w23_46, w23_47, w23_48, w23_49, w23_50, w23_53, w23_54, w23_55, w23_56, w23_57, w23_58, w23_59, w23_62, w23_63, w23_64, w23_65, w23_66, w23_67, w23_68, w23_71, w23_72, w23_73, w23_76, w23_77, w23_80, w23_81, w23_82, w23_83, w23_84, w23_87, w23_88, w23_91, w23_92, w23_93, w23_94, w23_95, w23_98, w23_99, w23_102, w23_103, w23_104, w23_105, w23_106, w23_107, w23_108, w23_109, w23_110, w23_111, w23_112, w23_115, w23_118, w23_119, w23_122, w23_125, w23_126, Ko_n, Ko_v, vX_i, vX_r, vX_l, vX_j, reduceIte, vmSwitch, Int.reduceEq]
    by_cases h : a < b
    · simp [h, jn, show ¬ b ≤ a by omega]
    · simp [h, jn, show b ≤ a by omega]
  · simp (disch := (first | assumption | omega | exact Nat.le_of_ble_eq_true rfl | rfl)) only [w23_0, w23_1, w23_44, w23_45, w23_46, w23_47, w23_48, w23_49, w23_50, w23_53, w23_54, w23_55, w23_56, w23_57, w23_58, w23_59, w23_62, w23_63, w23_64, w23_65, w23_66, w23_67, w23_68, w23_71, w23_72, w23_73, w23_76, w23_77, w23_80, w23_81, w23_82, w23_83, w23_84, w23_87, w23_88, w23_91, w23_92, w23_93, w23_94, w23_95, w23_98, w23_99, w23_102, w23_103, w23_104, w23_105, w23_106, w23_107, w23_108, w23_109, w23_110, w23_111, w23_112, w23_115, w23_118, w23_119, w23_122, w23_125, w23_126, Ko_n, Ko_v, vX_i, vX_r, vX_l, vX_j, reduceIte, vmSwitch, Int.reduceEq]
    by_cases h : b < a
    · simp [h, jn, show ¬ a ≤ b by omega]
    · simp [h, jn, show a ≤ b by omega]
  · simp (disch := (first | assumption | omega | exact Nat.le_of_ble_eq_true rfl | rfl)) only [w23_0, w23_1, w23_44, w23_45, w23_46, w23_47, w23_48, w23_49, w23_50, w23_53, w23_54, w23_55, w23_56, w23_57, w23_58, w23_59, w23_62, w23_63, w23_64, w23_65, w23_66, w23_67, w23_68, w23_71, w23_72, w23_73, w23_76, w23_77, w23_80, w23_81, w23_82, w23_83, w23_84, w23_87, w23_88, w23_91, w23_92, w23_93, w23_94, w23_95, w23_98, w23_99, w23_102, w23_103, w23_104, w23_105, w23_106, w23_107, w23_108, w23_109, w23_110, w23_111, w23_112, w23_115, w23_118, w23_119, w23_122, w23_125, w23_126, Ko_n, Ko_v, vX_i, vX_r, vX_l, vX_j, reduceIte, vmSwitch, Int.reduceEq]
    rfl
  · simp (disch := (first | assumption | omega | exact Nat.le_of_ble_eq_true rfl | rfl)) only [w23_0, w23_1, w23_44, w23_45, w23_46, w23_47, w23_48, w23_49, w23_50, w23_53, w23_54, w23_55, w23_56, w23_57, w23_58, w23_59, w23_62, w23_63, w23_64, w23_65, w23_66, w23_67, w23_68, w23_71, w23_72, w23_73, w23_76, w23_77, w23_80, w23_81, w23_82, w23_83, w23_84, w23_87, w23_88, w23_91, w23_92, w23_93, w23_94, w23_95, w23_98, w23_99, w23_102, w23_103, w23_104, w23_105, w23_106, w23_107, w23_108, w23_109, w23_110, w23_111, w23_112, w23_115, w23_118, w23_119, w23_122, w23_125, w23_126, Ko_n, Ko_v, vX_i, vX_r, vX_l, vX_j, reduceIte, vmSwitch, Int.reduceEq]
    rfl
theorem c21 {d : Nat} {k v : Int} {r : Nat} {T : Tt} {σ : St} {Q : vmO → vmH → Prop} (hr : ob 3 r) (h0 : 0 ≤ σ 301 r 0) (h1 : σ 301 r 0 < 900) : Ca d k 21 [.ref r, .int (i32 v)] (E T σ) Q = Q (.inl none) (E T (upA (upA σ 300 r (fu (σ 300 r) (σ 301 r 0) v)) 301 r fun _ => σ 301 r 0 + 1)) := by
  have hr3 := ob_lt hr
  rw [n21 _ _ _ _ _ _ _ hr]
  simp (disch := (first | assumption | omega | exact Nat.le_of_ble_eq_true rfl | rfl)) only [w21_0, w21_1, w21_4, w21_5, w21_8, w21_9, w21_12, w21_13, w21_16, w21_17, w21_20, w21_21, w21_22, w21_23, w21_24, w21_27, w21_28, w21_29, w21_32, Ko_n, Ko_v, vX_i, vX_r, vX_l, vX_j, reduceIte, upA_t, show ¬ (900 : Nat) ≤ σ 301 r 0 by omega]
def lwB (σ : St) (r o : Nat) : St := upA (upA σ 300 r (cp (σ 300 o) (σ 300 r) (σ 301 o 0))) 301 r fun _ => σ 301 o 0
theorem c22 {d : Nat} {k : Int} {r o : Nat} {T : Tt} {σ : St} {Q : vmO → vmH → Prop} (hr : ob 3 r) (ho : ob 3 o) (h0 : 0 ≤ σ 301 o 0) (h1 : σ 301 o 0 ≤ 900) : Ca d k 22 [.ref r, .ref o] (E T σ) Q = Q (.inl none) (E T (lwB σ r o)) := by
  have hr3 := ob_lt hr
  have ho3 := ob_lt ho
  rw [n22 _ _ _ _ _ _ _ hr]
  unfold lwB
  simp (disch := (first | assumption | omega | exact Nat.le_of_ble_eq_true rfl | rfl)) only [w22_0, w22_1, w22_4, w22_5, w22_6, w22_9, w22_10, w22_11, w22_14, w22_17, w22_18, w22_19, w22_22, w22_25, Ko_n, Ko_v, vX_i, vX_r, vX_l, vX_j, reduceIte, upA_t]
theorem c26 {d : Nat} {k : Int} {r : Nat} {T : Tt} {σ : St} {Q : vmO → vmH → Prop} (hr : ob 4 r) : Ca d k 26 [.ref r] (E T σ) Q = Q (.inl (some (.int (i32 (σ 401 r 0 * σ 402 r 0))))) (E T σ) := by
  have hr3 := ob_lt hr
  rw [n26 _ _ _ _ _ _ hr]
  simp (disch := (first | assumption | omega | exact Nat.le_of_ble_eq_true rfl | rfl)) only [w26_0, w26_1, w26_4, w26_5, w26_8, w26_9, Ko_n, Ko_v, vX_i, vX_r, vX_l, vX_j, reduceIte]
/-- whether a walker is free, of the bits -/
def frB (u w : Int) : Bool := decide (u / 2 ^ w.toNat % 2 = 1)
theorem fr_us : ∀ u : Fin 32, ∀ w : Fin 5, an (us (u.val : Int) (w.val : Int)) 1 = if frB (u.val : Int) (w.val : Int) then 1 else 0 := by decide
theorem fr_sr : ∀ u : Fin 32, ∀ w : Fin 5, an (sr (u.val : Int) (w.val : Int)) 1 = if frB (u.val : Int) (w.val : Int) then 1 else 0 := by decide
theorem fr_u {u w : Int} (u0 : 0 ≤ u) (u1 : u < 32) (w0 : 0 ≤ w) (w1 : w < 5) : an (us u w) 1 = if frB u w then 1 else 0 := by
  have := fr_us ⟨u.toNat, by omega⟩ ⟨w.toNat, by omega⟩
  dsimp only at this
  rwa [show ((u.toNat : Nat) : Int) = u by omega, show ((w.toNat : Nat) : Int) = w by omega] at this
theorem fr_s {u w : Int} (u0 : 0 ≤ u) (u1 : u < 32) (w0 : 0 ≤ w) (w1 : w < 5) : an (sr u w) 1 = if frB u w then 1 else 0 := by
  have := fr_sr ⟨u.toNat, by omega⟩ ⟨w.toNat, by omega⟩
  dsimp only at this
  rwa [show ((u.toNat : Nat) : Int) = u by omega, show ((w.toNat : Nat) : Int) = w by omega] at this
theorem c27 {d : Nat} {k w : Int} {r : Nat} {T : Tt} {σ : St} {Q : vmO → vmH → Prop} (hr : ob 4 r) (u0 : 0 ≤ σ 405 r 0) (u1 : σ 405 r 0 < 32) (w0 : 0 ≤ w) (w1 : w < 5) : Ca d k 27 [.ref r, .int (i32 w)] (E T σ) Q = Q (.inl (some (.int (i32 (if frB (σ 405 r 0) w then 1 else 0))))) (E T σ) := by
  have hr3 := ob_lt hr
  have hf := fr_u u0 u1 w0 w1
  have hb : -2147483648 ≤ an (us (σ 405 r 0) w) 1 ∧ an (us (σ 405 r 0) w) 1 < 2147483648 := by rw [hf]; split <;> omega
  rw [n27 _ _ _ _ _ _ _ hr]
  simp (disch := (first | assumption | omega | exact Nat.le_of_ble_eq_true rfl | rfl)) only [w27_0, w27_1, w27_4, w27_5, w27_6, w27_7, w27_8, w27_11, w27_12, w27_15, w27_16, Ko_n, Ko_v, vX_i, vX_r, vX_l, vX_j, reduceIte, hb.1, hb.2]
  rw [hf]
  cases frB (σ 405 r 0) w <;> simp
def wiB (m n : Int) : Bool := decide (0 < m ∧ 0 < n ∧ n % m = 0)
theorem c28 {d : Nat} {k n : Int} {r : Nat} {T : Tt} {σ : St} {Q : vmO → vmH → Prop} (hr : ob 4 r) (m0 : 0 ≤ σ 403 r 0) (m1 : σ 403 r 0 ≤ 9) (n0 : 0 ≤ n) (n1 : n < 2147483648) : Ca d k 28 [.ref r, .int (i32 n)] (E T σ) Q = Q (.inl (some (.int (i32 (if wiB (σ 403 r 0) n then 1 else 0))))) (E T σ) := by
  have hr3 := ob_lt hr
  rw [n28 _ _ _ _ _ _ _ hr]
  unfold wiB
  by_cases a : σ 403 r 0 ≤ 0
  · simp (disch := (first | assumption | omega | exact Nat.le_of_ble_eq_true rfl | rfl)) only [w28_0, w28_1, w28_4, w28_7, w28_8, w28_11, w28_12, w28_13, w28_16, w28_17, w28_20, w28_21, w28_24, w28_25, Ko_n, Ko_v, vX_i, vX_r, vX_l, vX_j, reduceIte, a]
    simp [show ¬ 0 < σ 403 r 0 by omega]
  · by_cases b : n ≤ 0
    · simp (disch := (first | assumption | omega | exact Nat.le_of_ble_eq_true rfl | rfl)) only [w28_0, w28_1, w28_4, w28_7, w28_8, w28_11, w28_12, w28_13, w28_16, w28_17, w28_20, w28_21, w28_24, w28_25, Ko_n, Ko_v, vX_i, vX_r, vX_l, vX_j, reduceIte, a, b]
      simp [show ¬ 0 < n by omega]
    · have e0 := Int.emod_nonneg n (show σ 403 r 0 ≠ 0 by omega)
      have e1 := Int.emod_lt_of_pos n (show 0 < σ 403 r 0 by omega)
      simp (disch := (first | assumption | omega | exact Nat.le_of_ble_eq_true rfl | rfl)) only [w28_0, w28_1, w28_4, w28_7, w28_8, w28_11, w28_12, w28_13, w28_16, w28_17, w28_20, w28_21, w28_24, w28_25, Ko_n, Ko_v, vX_i, vX_r, vX_l, vX_j, reduceIte, a, b]
      by_cases c : n % σ 403 r 0 = 0
      · simp [c, show 0 < σ 403 r 0 by omega, show 0 < n by omega]
      · simp [c]
theorem c29 {d : Nat} {k n : Int} {r : Nat} {T : Tt} {σ : St} {Q : vmO → vmH → Prop} (hr : ob 4 r) (m0 : 2 ≤ σ 401 r 0) (m1 : σ 401 r 0 ≤ 6) (n0 : 0 ≤ n) (n1 : n < 100) : Ca d k 29 [.ref r, .int (i32 n)] (E T σ) Q = Q (.inl (some (.int (i32 (n % σ 401 r 0))))) (E T σ) := by
  have hr3 := ob_lt hr
  rw [n29 _ _ _ _ _ _ _ hr]
  simp (disch := (first | assumption | omega | exact Nat.le_of_ble_eq_true rfl | rfl)) only [w29_0, w29_1, w29_4, w29_7, w29_8, w29_9, w29_12, w29_13, w29_16, w29_17, Ko_n, Ko_v, vX_i, vX_r, vX_l, vX_j, reduceIte, show ¬ σ 401 r 0 ≤ 0 by omega]
theorem c30 {d : Nat} {k n : Int} {r : Nat} {T : Tt} {σ : St} {Q : vmO → vmH → Prop} (hr : ob 4 r) (m0 : 2 ≤ σ 401 r 0) (m1 : σ 401 r 0 ≤ 6) (n0 : 0 ≤ n) (n1 : n < 100) : Ca d k 30 [.ref r, .int (i32 n)] (E T σ) Q = Q (.inl (some (.int (i32 (n / σ 401 r 0))))) (E T σ) := by
  have hr3 := ob_lt hr
  rw [n30 _ _ _ _ _ _ _ hr]
  simp (disch := (first | assumption | omega | exact Nat.le_of_ble_eq_true rfl | rfl)) only [w30_0, w30_1, w30_4, w30_7, w30_8, w30_9, w30_12, w30_13, w30_16, w30_17, Ko_n, Ko_v, vX_i, vX_r, vX_l, vX_j, reduceIte, show ¬ σ 401 r 0 ≤ 0 by omega]
/-! the cells beside one -/
def inB (W H : Int) : Int → Bool := fun k => decide (0 ≤ k ∧ k < W * H)
def nbC (W H k d : Int) : Int := if d = 0 then (if 0 < k / W then k - W else -1) else if d = 1 then (if 0 < k % W then k - 1 else -1) else if d = 2 then (if k % W < W - 1 then k + 1 else -1) else (if k / W < H - 1 then k + W else -1)
def nbE (W H : Int) (q : Int → Bool) (k d : Int) : Bool := decide (nbC W H k d ≠ -1) && q (nbC W H k d)
def nbB (W H : Int) (q : Int → Bool) : Int → Bool := fun k => inB W H k && (nbE W H q k 0 || nbE W H q k 1 || nbE W H q k 2 || nbE W H q k 3)
def whOk (W H : Int) : Prop := (W = 0 ∧ H = 0) ∨ (2 ≤ W ∧ W ≤ 6 ∧ 2 ≤ H ∧ H ≤ 6)
def wh2 (W H : Int) : Prop := 2 ≤ W ∧ W ≤ 6 ∧ 2 ≤ H ∧ H ≤ 6
theorem wh_mul {W H : Int} (h : wh2 W H) : 4 ≤ W * H ∧ W * H ≤ 36 ∧ W ≤ W * H := by
  obtain ⟨a, b, c, d⟩ := h
  have hW : W = 2 ∨ W = 3 ∨ W = 4 ∨ W = 5 ∨ W = 6 := by omega
  rcases hW with rfl | rfl | rfl | rfl | rfl <;> omega
theorem wh_mul0 {W H : Int} (h : whOk W H) : 0 ≤ W * H ∧ W * H ≤ 36 := by
  rcases h with ⟨rfl, rfl⟩ | h
  · decide
  · have := wh_mul h; omega
/-- what a plan knows of its cells -/
def geo (σ : St) (p : Nat) (W H : Int) : Prop := σ 401 p 0 = W ∧ σ 402 p 0 = H ∧ i64 (σ 411 p 0) = bs (inB W H) ∧ i64 (σ 412 p 0) = bs (fun k => inB W H k && decide (k % W = 0)) ∧ i64 (σ 413 p 0) = bs (fun k => inB W H k && decide (k % W = W - 1)) ∧ ∀ k d : Int, 0 ≤ k → k < W * H → 0 ≤ d → d < 4 → σ 410 p (4 * k + d) = nbC W H k d
theorem nb_bits {W H : Int} (h : wh2 W H) {q : Int → Bool} (hq : ∀ k, 0 ≤ k → k < 64 → q k = true → k < W * H) : ((ll (bs q &&& (bs (fun k => inB W H k && decide (k % W = W - 1)) ^^^ i64 (-1))) 1 ||| lu (bs q &&& (bs (fun k => inB W H k && decide (k % W = 0)) ^^^ i64 (-1))) 1 ||| ll (bs q) W ||| lu (bs q) W) &&& bs (inB W H)) = bs (nbB W H q) := by
  have hm := wh_mul h
  obtain ⟨a, b, c, d⟩ := h
  rw [bs_not, bs_not, bs_and, bs_and, bs_shl (by omega) (by omega), bs_ush (by omega) (by omega), bs_shl (by omega) (by omega), bs_ush (by omega) (by omega), bs_or, bs_or, bs_or, bs_and]
  apply bs_congr
  intro k k0 k1
  unfold nbB
  cases hin : inB W H k with
  | false => simp
  | true =>
    have hk : k < W * H := by unfold inB at hin; exact (of_decide_eq_true hin).2
    rw [Bool.and_true, Bool.true_and]
    have e0 : nbE W H q k 0 = (decide (W ≤ k) && q (k - W)) := by
      unfold nbE nbC
      rw [if_pos rfl]
      by_cases hx : 0 < k / W
      · have : W ≤ k := by
          have hW : W = 2 ∨ W = 3 ∨ W = 4 ∨ W = 5 ∨ W = 6 := by omega
          rcases hW with rfl | rfl | rfl | rfl | rfl <;> omega
        rw [if_pos hx, decide_eq_true this, decide_eq_true (by omega : k - W ≠ -1)]
      · have : ¬ W ≤ k := by
          have hW : W = 2 ∨ W = 3 ∨ W = 4 ∨ W = 5 ∨ W = 6 := by omega
          rcases hW with rfl | rfl | rfl | rfl | rfl <;> omega
        rw [if_neg hx, decide_eq_false this]; simp
    have e1 : nbE W H q k 1 = (decide (1 ≤ k) && (q (k - 1) && !(inB W H (k - 1) && decide ((k - 1) % W = W - 1)))) := by
      unfold nbE nbC inB
      rw [if_neg (by omega), if_pos rfl]
      by_cases hx : 0 < k % W
      · have h1 : 1 ≤ k := by
          rcases Int.lt_or_le 0 k with h | h
          · omega
          · have : k = 0 := by omega
            subst this; simp at hx
        have h2 : ¬ (k - 1) % W = W - 1 := by
          have hW : W = 2 ∨ W = 3 ∨ W = 4 ∨ W = 5 ∨ W = 6 := by omega
          rcases hW with rfl | rfl | rfl | rfl | rfl <;> omega
        rw [if_pos hx, decide_eq_true h1, decide_eq_false h2, decide_eq_true (by omega : k - 1 ≠ -1)]; simp
      · rw [if_neg hx]
        by_cases h1 : 1 ≤ k
        · have h2 : (k - 1) % W = W - 1 := by
            have hW : W = 2 ∨ W = 3 ∨ W = 4 ∨ W = 5 ∨ W = 6 := by omega
            rcases hW with rfl | rfl | rfl | rfl | rfl <;> omega
          rw [decide_eq_true h2, decide_eq_true (by omega : 0 ≤ k - 1 ∧ k - 1 < W * H)]; simp
        · rw [decide_eq_false h1]; simp
    have e2 : nbE W H q k 2 = (decide (k + 1 < 64) && (q (k + 1) && !(inB W H (k + 1) && decide ((k + 1) % W = 0)))) := by
      unfold nbE nbC inB
      rw [if_neg (by omega), if_neg (by omega), if_pos rfl, decide_eq_true (by omega : k + 1 < 64), Bool.true_and]
      by_cases hx : k % W < W - 1
      · have h2 : ¬ (k + 1) % W = 0 := by
          have hW : W = 2 ∨ W = 3 ∨ W = 4 ∨ W = 5 ∨ W = 6 := by omega
          rcases hW with rfl | rfl | rfl | rfl | rfl <;> omega
        rw [if_pos hx, decide_eq_false h2, decide_eq_true (by omega : k + 1 ≠ -1)]; simp
      · rw [if_neg hx]
        have h2 : (k + 1) % W = 0 := by
          have hW : W = 2 ∨ W = 3 ∨ W = 4 ∨ W = 5 ∨ W = 6 := by omega
          rcases hW with rfl | rfl | rfl | rfl | rfl <;> omega
        rw [decide_eq_true h2, Bool.and_true]
        cases hq1 : q (k + 1) with
        | false => simp
        | true => rw [decide_eq_true (⟨by omega, hq (k + 1) (by omega) (by omega) hq1⟩ : 0 ≤ k + 1 ∧ k + 1 < W * H)]; simp
    have e3 : nbE W H q k 3 = (decide (k + W < 64) && q (k + W)) := by
      unfold nbE nbC
      rw [if_neg (by omega), if_neg (by omega), if_neg (by omega), decide_eq_true (by omega : k + W < 64), Bool.true_and]
      by_cases hx : k / W < H - 1
      · rw [if_pos hx, decide_eq_true (by omega : k + W ≠ -1), Bool.true_and]
      · rw [if_neg hx]
        cases hq1 : q (k + W) with
        | false => simp
        | true =>
          exfalso
          have := hq (k + W) (by omega) (by omega) hq1
          have hW : W = 2 ∨ W = 3 ∨ W = 4 ∨ W = 5 ∨ W = 6 := by omega
          rcases hW with rfl | rfl | rfl | rfl | rfl <;> omega
    rw [e0, e1, e2, e3]
    generalize (decide (W ≤ k) && q (k - W)) = x0
    generalize (decide (1 ≤ k) && (q (k - 1) && !(inB W H (k - 1) && decide ((k - 1) % W = W - 1)))) = x1
    generalize (decide (k + 1 < 64) && (q (k + 1) && !(inB W H (k + 1) && decide ((k + 1) % W = 0)))) = x2
    generalize (decide (k + W < 64) && q (k + W)) = x3
    cases x0 <;> cases x1 <;> cases x2 <;> cases x3 <;> rfl
theorem c32 {d : Nat} {k W H : Int} {r : Nat} {q : Int → Bool} {T : Tt} {σ : St} {Q : vmO → vmH → Prop} (hr : ob 4 r) (hg : geo σ r W H) (h : wh2 W H) (hq : ∀ k, 0 ≤ k → k < 64 → q k = true → k < W * H) : Ca d k 32 [.ref r, .long (bs q)] (E T σ) Q = Q (.inl (some (.long (bs (nbB W H q))))) (E T σ) := by
  have hr3 := ob_lt hr
  obtain ⟨g1, g2, g3, g4, g5, g6⟩ := hg
  rw [n32 _ _ _ _ _ _ _ hr]
  simp (disch := (first | assumption | omega | exact Nat.le_of_ble_eq_true rfl | rfl)) only [w32_0, w32_1, w32_2, w32_5, w32_8, w32_9, w32_10, w32_11, w32_12, w32_13, w32_14, w32_15, w32_18, w32_21, w32_22, w32_23, w32_24, w32_25, w32_27, w32_28, w32_30, w32_31, w32_32, w32_33, w32_36, w32_37, w32_38, w32_39, w32_40, w32_43, w32_44, w32_45, w32_46, w32_49, w32_50, Ko_n, Ko_v, vX_i, vX_r, vX_l, vX_j, reduceIte, g1, g3, g4, g5]
  rw [nb_bits h hq]
/-- all that hangs together with a cell, by so many steps -/
def flI (W H : Int) (o : Int → Bool) (z : Int) : Nat → Int → Bool
  | 0 => fun k => decide (k = z) && o k
  | n + 1 => fun k => (flI W H o z n k || nbB W H (flI W H o z n) k) && o k
theorem flI_in {W H z : Int} {o : Int → Bool} (ho : ∀ k, 0 ≤ k → k < 64 → o k = true → k < W * H) : ∀ n k, 0 ≤ k → k < 64 → flI W H o z n k = true → k < W * H := by
  intro n k h0 h1 h
  cases n with
  | zero => simp only [flI, Bool.and_eq_true] at h; exact ho k h0 h1 h.2
  | succ n => simp only [flI, Bool.and_eq_true] at h; exact ho k h0 h1 h.2
theorem nbB_congr {W H : Int} (h : wh2 W H) {q q' : Int → Bool} (he : ∀ k, 0 ≤ k → k < W * H → q k = q' k) (k : Int) : nbB W H q k = nbB W H q' k := by
  unfold nbB
  cases hin : inB W H k with
  | false => rfl
  | true =>
    have hk := of_decide_eq_true hin
    have hd : ∀ d, nbE W H q k d = nbE W H q' k d := by
      intro d
      unfold nbE
      by_cases hn : nbC W H k d = -1
      · rw [hn]; simp
      · rw [he _ ?_ ?_]
        · obtain ⟨a, b, c, e⟩ := h
          unfold nbC at hn ⊢
          have hW : W = 2 ∨ W = 3 ∨ W = 4 ∨ W = 5 ∨ W = 6 := by omega
          repeat' split
          all_goals (rcases hW with rfl | rfl | rfl | rfl | rfl <;> omega)
        · obtain ⟨a, b, c, e⟩ := h
          unfold nbC at hn ⊢
          have hW : W = 2 ∨ W = 3 ∨ W = 4 ∨ W = 5 ∨ W = 6 := by omega
          repeat' split
          all_goals (rcases hW with rfl | rfl | rfl | rfl | rfl <;> omega)
    rw [hd, hd, hd, hd]
theorem flI_fix {W H z : Int} (h : wh2 W H) {o : Int → Bool} {n : Nat} (he : ∀ k, 0 ≤ k → k < 64 → flI W H o z (n + 1) k = flI W H o z n k) : ∀ m k, 0 ≤ k → k < 64 → flI W H o z (n + m) k = flI W H o z n k := by
  have hm := wh_mul h
  intro m
  induction m with
  | zero => intro k _ _; rfl
  | succ m ih =>
    intro k h0 h1
    rw [← he k h0 h1]
    show ((flI W H o z (n + m) k || nbB W H (flI W H o z (n + m)) k) && o k) = ((flI W H o z n k || nbB W H (flI W H o z n) k) && o k)
    rw [ih k h0 h1, nbB_congr h (fun j j0 j1 => ih j j0 (by omega))]
theorem c33 {d : Nat} {k z W H : Int} {r : Nat} {o : Int → Bool} {T : Tt} {σ : St} {Q : vmO → vmH → Prop} (hr : ob 4 r) (hg : geo σ r W H) (h : wh2 W H) (hz0 : 0 ≤ z) (hz1 : z < 36) (ho : ∀ k, 0 ≤ k → k < 64 → o k = true → k < W * H) : Ca (d + 1) k 33 [.ref r, .int (i32 z), .long (bs o)] (E T σ) Q = Q (.inl (some (.long (bs (flI W H o z 36))))) (E T σ) := by
  have hr3 := ob_lt hr
  have loop : ∀ (m n : Nat) (l7 l8 : Value), n + m = 36 → Wp (d + 1) M_X4_flood 10 [.ref r, .int (i32 z), .long (bs o), vmJ, .long (bs (flI W H o z n)), vmJ, .int (i32 n), l7, l8] [] (E T σ) Q = Q (.inl (some (.long (bs (flI W H o z 36))))) (E T σ) := by
    intro m
    induction m with
    | zero =>
      intro n l7 l8 hn
      have hn : n = 36 := by omega
      subst hn
      rw [w33_10]
      simp (disch := (first | assumption | omega | exact Nat.le_of_ble_eq_true rfl | rfl)) only [w33_0, w33_1, w33_2, w33_3, w33_4, w33_5, w33_7, w33_8, w33_12, w33_14, w33_17, w33_19, w33_20, w33_22, w33_25, w33_26, w33_27, w33_28, w33_30, w33_32, w33_34, w33_38, w33_40, w33_41, w33_43, w33_45, w33_48, w33_51, w33_53, Ko_n, Ko_v, vX_i, vX_r, vX_l, vX_j, reduceIte, show ((36 : Nat) : Int) = 36 by rfl, Int.le_refl]
    | succ m ih =>
      intro n l7 l8 hn
      rw [w33_10]
      simp (disch := (first | assumption | omega | exact Nat.le_of_ble_eq_true rfl | rfl)) only [w33_0, w33_1, w33_2, w33_3, w33_4, w33_5, w33_7, w33_8, w33_12, w33_14, w33_17, w33_19, w33_20, w33_22, w33_25, w33_26, w33_27, w33_28, w33_30, w33_32, w33_34, w33_38, w33_40, w33_41, w33_43, w33_45, w33_48, w33_51, w33_53, Ko_n, Ko_v, vX_i, vX_r, vX_l, vX_j, reduceIte, show ¬ (36 : Int) ≤ (n : Int) by omega]
      rw [c32 hr hg h (flI_in ho n)]
      have hst : (bs (flI W H o z n) ||| bs (nbB W H (flI W H o z n))) &&& bs o = bs (flI W H o z (n + 1)) := by rw [bs_or, bs_and]; rfl
      simp (disch := (first | assumption | omega | exact Nat.le_of_ble_eq_true rfl | rfl)) only [w33_0, w33_1, w33_2, w33_3, w33_4, w33_5, w33_7, w33_8, w33_12, w33_14, w33_17, w33_19, w33_20, w33_22, w33_25, w33_26, w33_27, w33_28, w33_30, w33_32, w33_34, w33_38, w33_40, w33_41, w33_43, w33_45, w33_48, w33_51, w33_53, Ko_n, Ko_v, vX_i, vX_r, vX_l, vX_j, reduceIte, hst]
      by_cases he : bs (flI W H o z (n + 1)) = bs (flI W H o z n)
      · simp only [he, not_true, if_false]
        have := flI_fix h (fun k h0 h1 => bs_inj he h0 h1) (m + 1)
        rw [show n + (m + 1) = 36 by omega] at this
        rw [bs_congr this]
      · simp only [he, not_false_eq_true, if_true]
        exact ih (n + 1) _ _ (by omega)
  rw [n33 _ _ _ _ _ _ _ _ hr]
  simp (disch := (first | assumption | omega | exact Nat.le_of_ble_eq_true rfl | rfl)) only [w33_0, w33_1, w33_2, w33_3, w33_4, w33_5, w33_7, w33_8, w33_12, w33_14, w33_17, w33_19, w33_20, w33_22, w33_25, w33_26, w33_27, w33_28, w33_30, w33_32, w33_34, w33_38, w33_40, w33_41, w33_43, w33_45, w33_48, w33_51, w33_53, Ko_n, Ko_v, vX_i, vX_r, vX_l, vX_j, reduceIte, bs_one]
  rw [bs_and]
  exact loop 36 0 _ _ rfl
