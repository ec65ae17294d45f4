/-! ===== the law's cases (by program), 0 ===== -/
theorem k1_313 {d n : Nat} {i B : Int} {t1 t2 : Nat} {t3 : Bool} {S : Nat → Int} {σ : St} {Q : vmO → vmH → Prop} {l5 l6 l7 : Value} (hI : Inv B σ) (hB : B < 790000000) (h9 : 999 ≤ B) (i0 : 0 ≤ i) (i6 : i + 6 ≤ n) (nn : (n : Int) ≤ 3072) (hS : ∀ j : Nat, j < n → -2147483648 ≤ S j ∧ S j < 2147483648) (next : ∀ u1 u2 u3 ρ l5 l6 l7, u1 ≤ t1 + 1 → u2 ≤ t2 + 6 → Inv (B + 300000) ρ → Wp (d + 41) M_L_law 3253 [.ref 2000000, .ref 0, .ref 382, .ref 405, .int (i32 i), l5, l6, l7] [] (E (u1, u2, u3, n, S) ρ) Q) : Wp (d + 41) M_L_law 313 [.ref 2000000, .ref 0, .ref 382, .ref 405, .int (i32 i), l5, l6, l7] [] (E (t1, t2, t3, n, S) σ) Q := by
  have h1 : i + 1 < (n : Int) := by omega
  have hn : (n : Int) < 2147483648 := by omega
  have r1 := hS (i + 1).toNat (by omega)
  simp (disch := (first | assumption | omega | exact Nat.le_of_ble_eq_true rfl | rfl)) only [w363_313, w363_314, w363_315, w363_317, w363_318, w363_319, w363_320, w363_321, Ko_n, Ko_v, vX_i, vX_r, vX_l, vX_j, reduceIte]
  refine l322 hI r1.1 r1.2 fun kk T' τ hm hT => ?_
  obtain ⟨ta, tb, tc, rfl, hta, htb⟩ := tt hT
  have kb := pkM_b hm
  simp (disch := (first | assumption | omega | exact Nat.le_of_ble_eq_true rfl | rfl)) only [w363_324, w363_326, w363_327, w363_328, w363_330, w363_331, w363_332, w363_333, Ko_n, Ko_v, vX_i, vX_r, vX_l, vX_j, reduceIte]
  refine r208 hI h9 r1.1 r1.2 hm fun b ρ hr => ?_
  obtain ⟨q1, q2, q3⟩ := hr
  have hb1 := Int32.le_toInt (i32 b)
  have hb2 := Int32.toInt_lt (i32 b)
  rw [← i32_toInt (i32 b)]
  generalize (i32 b).toInt = u at hb1 hb2 q3 ⊢
  simp (disch := (first | assumption | omega | exact Nat.le_of_ble_eq_true rfl | rfl)) only [w363_336, w363_338, w363_339, Ko_n, Ko_v, vX_i, vX_r, vX_l, vX_j, reduceIte]
  rw [c174, q2]
  by_cases e : kk = 0
  · have q4 := q3 e
    simp (disch := (first | assumption | omega | exact Nat.le_of_ble_eq_true rfl | rfl)) only [w363_342, w363_344, w363_347, w363_348, w363_349, w363_351, w363_354, w363_355, w363_356, w363_357, w363_359, w363_360, w363_364, w363_365, w363_366, Ko_n, Ko_v, vX_i, vX_r, vX_l, vX_j, reduceIte, e, q4, eq_self, not_true, if_true, if_false]
    exact next _ _ _ _ _ _ _ hta htb q1
  · simp (disch := (first | assumption | omega | exact Nat.le_of_ble_eq_true rfl | rfl)) only [w363_342, w363_344, w363_347, w363_348, w363_349, w363_351, w363_354, w363_355, w363_356, w363_357, w363_359, w363_360, w363_364, w363_365, w363_366, Ko_n, Ko_v, vX_i, vX_r, vX_l, vX_j, reduceIte, e, eq_self, not_false_eq_true, if_true, if_false]
    exact next _ _ _ _ _ _ _ hta htb q1
theorem k3_394 {d n : Nat} {i B : Int} {t1 t2 : Nat} {t3 : Bool} {S : Nat → Int} {σ : St} {Q : vmO → vmH → Prop} {l5 l6 l7 : Value} (hI : Inv B σ) (hB : B < 790000000) (h9 : 999 ≤ B) (i0 : 0 ≤ i) (i6 : i + 6 ≤ n) (nn : (n : Int) ≤ 3072) (hS : ∀ j : Nat, j < n → -2147483648 ≤ S j ∧ S j < 2147483648) (next : ∀ u1 u2 u3 ρ l5 l6 l7, u1 ≤ t1 + 1 → u2 ≤ t2 + 6 → Inv (B + 300000) ρ → Wp (d + 41) M_L_law 3253 [.ref 2000000, .ref 0, .ref 382, .ref 405, .int (i32 i), l5, l6, l7] [] (E (u1, u2, u3, n, S) ρ) Q) : Wp (d + 41) M_L_law 394 [.ref 2000000, .ref 0, .ref 382, .ref 405, .int (i32 i), l5, l6, l7] [] (E (t1, t2, t3, n, S) σ) Q := by
  have h1 : i + 1 < (n : Int) := by omega
  have h2 : i + 2 < (n : Int) := by omega
  have hn : (n : Int) < 2147483648 := by omega
  have r1 := hS (i + 1).toNat (by omega)
  have r2 := hS (i + 2).toNat (by omega)
  simp (disch := (first | assumption | omega | exact Nat.le_of_ble_eq_true rfl | rfl)) only [w363_394, w363_395, w363_396, w363_398, w363_399, w363_400, w363_401, w363_402, w363_404, w363_405, w363_406, w363_407, w363_408, Ko_n, Ko_v, vX_i, vX_r, vX_l, vX_j, reduceIte]
  refine l323 hI hB rfl r1.1 r1.2 r2.1 r2.2 fun kk T' τ hm hT => ?_
  obtain ⟨ta, tb, tc, rfl, hta, htb⟩ := tt hT
  have kb := qM_b hm
  simp (disch := (first | assumption | omega | exact Nat.le_of_ble_eq_true rfl | rfl)) only [w363_411, w363_413, w363_414, w363_415, w363_417, w363_418, w363_419, w363_420, w363_421, w363_423, w363_424, w363_425, w363_426, Ko_n, Ko_v, vX_i, vX_r, vX_l, vX_j, reduceIte]
  refine r227 hI hB rfl r1.1 r1.2 r2.1 r2.2 hm fun b ρ hr => ?_
  obtain ⟨q1, q2, q3⟩ := hr
  have hb1 := Int32.le_toInt (i32 b)
  have hb2 := Int32.toInt_lt (i32 b)
  rw [← i32_toInt (i32 b)]
  generalize (i32 b).toInt = u at hb1 hb2 q3 ⊢
  simp (disch := (first | assumption | omega | exact Nat.le_of_ble_eq_true rfl | rfl)) only [w363_429, w363_431, w363_432, Ko_n, Ko_v, vX_i, vX_r, vX_l, vX_j, reduceIte]
  rw [c174, q2]
  by_cases e : kk = 0
  · have q4 := q3 e
    simp (disch := (first | assumption | omega | exact Nat.le_of_ble_eq_true rfl | rfl)) only [w363_435, w363_437, w363_440, w363_441, w363_442, w363_444, w363_447, w363_448, w363_449, w363_450, w363_452, w363_453, w363_457, w363_458, w363_459, Ko_n, Ko_v, vX_i, vX_r, vX_l, vX_j, reduceIte, e, q4, eq_self, not_true, if_true, if_false]
    exact next _ _ _ _ _ _ _ hta htb q1
  · simp (disch := (first | assumption | omega | exact Nat.le_of_ble_eq_true rfl | rfl)) only [w363_435, w363_437, w363_440, w363_441, w363_442, w363_444, w363_447, w363_448, w363_449, w363_450, w363_452, w363_453, w363_457, w363_458, w363_459, Ko_n, Ko_v, vX_i, vX_r, vX_l, vX_j, reduceIte, e, eq_self, not_false_eq_true, if_true, if_false]
    exact next _ _ _ _ _ _ _ hta htb q1
theorem k4_462 {d n : Nat} {i B : Int} {t1 t2 : Nat} {t3 : Bool} {S : Nat → Int} {σ : St} {Q : vmO → vmH → Prop} {l5 l6 l7 : Value} (hI : Inv B σ) (hB : B < 790000000) (h9 : 999 ≤ B) (i0 : 0 ≤ i) (i6 : i + 6 ≤ n) (nn : (n : Int) ≤ 3072) (hS : ∀ j : Nat, j < n → -2147483648 ≤ S j ∧ S j < 2147483648) (next : ∀ u1 u2 u3 ρ l5 l6 l7, u1 ≤ t1 + 1 → u2 ≤ t2 + 6 → Inv (B + 300000) ρ → Wp (d + 41) M_L_law 3253 [.ref 2000000, .ref 0, .ref 382, .ref 405, .int (i32 i), l5, l6, l7] [] (E (u1, u2, u3, n, S) ρ) Q) : Wp (d + 41) M_L_law 462 [.ref 2000000, .ref 0, .ref 382, .ref 405, .int (i32 i), l5, l6, l7] [] (E (t1, t2, t3, n, S) σ) Q := by
  have h1 : i + 1 < (n : Int) := by omega
  have h2 : i + 2 < (n : Int) := by omega
  have hn : (n : Int) < 2147483648 := by omega
  have r1 := hS (i + 1).toNat (by omega)
  have r2 := hS (i + 2).toNat (by omega)
  simp (disch := (first | assumption | omega | exact Nat.le_of_ble_eq_true rfl | rfl)) only [w363_462, w363_463, w363_464, w363_466, w363_467, w363_468, w363_469, w363_470, w363_472, w363_473, w363_474, w363_475, w363_476, Ko_n, Ko_v, vX_i, vX_r, vX_l, vX_j, reduceIte]
  refine l324 hI hB rfl r1.1 r1.2 r2.1 r2.2 fun kk T' τ hm hT => ?_
  obtain ⟨ta, tb, tc, rfl, hta, htb⟩ := tt hT
  have kb := qM_b hm
  simp (disch := (first | assumption | omega | exact Nat.le_of_ble_eq_true rfl | rfl)) only [w363_479, w363_481, w363_482, w363_483, w363_485, w363_486, w363_487, w363_488, w363_489, w363_491, w363_492, w363_493, w363_494, Ko_n, Ko_v, vX_i, vX_r, vX_l, vX_j, reduceIte]
  refine r228 hI hB rfl r1.1 r1.2 r2.1 r2.2 hm fun b ρ hr => ?_
  obtain ⟨q1, q2, q3⟩ := hr
  have hb1 := Int32.le_toInt (i32 b)
  have hb2 := Int32.toInt_lt (i32 b)
  rw [← i32_toInt (i32 b)]
  generalize (i32 b).toInt = u at hb1 hb2 q3 ⊢
  simp (disch := (first | assumption | omega | exact Nat.le_of_ble_eq_true rfl | rfl)) only [w363_497, w363_499, w363_500, Ko_n, Ko_v, vX_i, vX_r, vX_l, vX_j, reduceIte]
  rw [c174, q2]
  by_cases e : kk = 0
  · have q4 := q3 e
    simp (disch := (first | assumption | omega | exact Nat.le_of_ble_eq_true rfl | rfl)) only [w363_503, w363_505, w363_508, w363_509, w363_510, w363_512, w363_515, w363_516, w363_517, w363_518, w363_520, w363_521, w363_525, w363_526, w363_527, Ko_n, Ko_v, vX_i, vX_r, vX_l, vX_j, reduceIte, e, q4, eq_self, not_true, if_true, if_false]
    exact next _ _ _ _ _ _ _ hta htb q1
  · simp (disch := (first | assumption | omega | exact Nat.le_of_ble_eq_true rfl | rfl)) only [w363_503, w363_505, w363_508, w363_509, w363_510, w363_512, w363_515, w363_516, w363_517, w363_518, w363_520, w363_521, w363_525, w363_526, w363_527, Ko_n, Ko_v, vX_i, vX_r, vX_l, vX_j, reduceIte, e, eq_self, not_false_eq_true, if_true, if_false]
    exact next _ _ _ _ _ _ _ hta htb q1
theorem k7_557 {d n : Nat} {i B : Int} {t1 t2 : Nat} {t3 : Bool} {S : Nat → Int} {σ : St} {Q : vmO → vmH → Prop} {l5 l6 l7 : Value} (hI : Inv B σ) (hB : B < 790000000) (h9 : 999 ≤ B) (i0 : 0 ≤ i) (i6 : i + 6 ≤ n) (nn : (n : Int) ≤ 3072) (hS : ∀ j : Nat, j < n → -2147483648 ≤ S j ∧ S j < 2147483648) (next : ∀ u1 u2 u3 ρ l5 l6 l7, u1 ≤ t1 + 1 → u2 ≤ t2 + 6 → Inv (B + 300000) ρ → Wp (d + 41) M_L_law 3253 [.ref 2000000, .ref 0, .ref 382, .ref 405, .int (i32 i), l5, l6, l7] [] (E (u1, u2, u3, n, S) ρ) Q) : Wp (d + 41) M_L_law 557 [.ref 2000000, .ref 0, .ref 382, .ref 405, .int (i32 i), l5, l6, l7] [] (E (t1, t2, t3, n, S) σ) Q := by
  have h1 : i + 1 < (n : Int) := by omega
  have h2 : i + 2 < (n : Int) := by omega
  have hn : (n : Int) < 2147483648 := by omega
  have r1 := hS (i + 1).toNat (by omega)
  have r2 := hS (i + 2).toNat (by omega)
  simp (disch := (first | assumption | omega | exact Nat.le_of_ble_eq_true rfl | rfl)) only [w363_557, w363_558, w363_559, w363_561, w363_562, w363_563, w363_564, w363_565, w363_567, w363_568, w363_569, w363_570, w363_571, Ko_n, Ko_v, vX_i, vX_r, vX_l, vX_j, reduceIte]
  refine l325 hI hB rfl r1.1 r1.2 r2.1 r2.2 fun kk T' τ hm hT => ?_
  obtain ⟨ta, tb, tc, rfl, hta, htb⟩ := tt hT
  have kb := dM_b hm
  simp (disch := (first | assumption | omega | exact Nat.le_of_ble_eq_true rfl | rfl)) only [w363_574, w363_576, w363_577, w363_578, w363_580, w363_581, w363_582, w363_583, w363_584, w363_586, w363_587, w363_588, w363_589, Ko_n, Ko_v, vX_i, vX_r, vX_l, vX_j, reduceIte]
  refine r244 hI hB rfl r1.1 r1.2 r2.1 r2.2 hm fun b ρ hr => ?_
  obtain ⟨q1, q2, q3⟩ := hr
  have hb1 := Int32.le_toInt (i32 b)
  have hb2 := Int32.toInt_lt (i32 b)
  rw [← i32_toInt (i32 b)]
  generalize (i32 b).toInt = u at hb1 hb2 q3 ⊢
  simp (disch := (first | assumption | omega | exact Nat.le_of_ble_eq_true rfl | rfl)) only [w363_592, w363_594, w363_595, Ko_n, Ko_v, vX_i, vX_r, vX_l, vX_j, reduceIte]
  rw [c174, q2]
  by_cases e : kk = 0
  · have q4 := q3 e
    simp (disch := (first | assumption | omega | exact Nat.le_of_ble_eq_true rfl | rfl)) only [w363_598, w363_600, w363_603, w363_604, w363_605, w363_607, w363_610, w363_611, w363_612, w363_613, w363_615, w363_616, w363_620, w363_621, w363_622, Ko_n, Ko_v, vX_i, vX_r, vX_l, vX_j, reduceIte, e, q4, eq_self, not_true, if_true, if_false]
    exact next _ _ _ _ _ _ _ hta htb q1
  · simp (disch := (first | assumption | omega | exact Nat.le_of_ble_eq_true rfl | rfl)) only [w363_598, w363_600, w363_603, w363_604, w363_605, w363_607, w363_610, w363_611, w363_612, w363_613, w363_615, w363_616, w363_620, w363_621, w363_622, Ko_n, Ko_v, vX_i, vX_r, vX_l, vX_j, reduceIte, e, eq_self, not_false_eq_true, if_true, if_false]
    exact next _ _ _ _ _ _ _ hta htb q1
theorem k8_625 {d n : Nat} {i B : Int} {t1 t2 : Nat} {t3 : Bool} {S : Nat → Int} {σ : St} {Q : vmO → vmH → Prop} {l5 l6 l7 : Value} (hI : Inv B σ) (hB : B < 790000000) (h9 : 999 ≤ B) (i0 : 0 ≤ i) (i6 : i + 6 ≤ n) (nn : (n : Int) ≤ 3072) (hS : ∀ j : Nat, j < n → -2147483648 ≤ S j ∧ S j < 2147483648) (next : ∀ u1 u2 u3 ρ l5 l6 l7, u1 ≤ t1 + 1 → u2 ≤ t2 + 6 → Inv (B + 300000) ρ → Wp (d + 41) M_L_law 3253 [.ref 2000000, .ref 0, .ref 382, .ref 405, .int (i32 i), l5, l6, l7] [] (E (u1, u2, u3, n, S) ρ) Q) : Wp (d + 41) M_L_law 625 [.ref 2000000, .ref 0, .ref 382, .ref 405, .int (i32 i), l5, l6, l7] [] (E (t1, t2, t3, n, S) σ) Q := by
  have h1 : i + 1 < (n : Int) := by omega
  have h2 : i + 2 < (n : Int) := by omega
  have hn : (n : Int) < 2147483648 := by omega
  have r1 := hS (i + 1).toNat (by omega)
  have r2 := hS (i + 2).toNat (by omega)
  simp (disch := (first | assumption | omega | exact Nat.le_of_ble_eq_true rfl | rfl)) only [w363_625, w363_626, w363_627, w363_629, w363_630, w363_631, w363_632, w363_633, w363_635, w363_636, w363_637, w363_638, w363_639, Ko_n, Ko_v, vX_i, vX_r, vX_l, vX_j, reduceIte]
  refine l326 hI hB rfl r1.1 r1.2 r2.1 r2.2 fun kk T' τ hm hT => ?_
  obtain ⟨ta, tb, tc, rfl, hta, htb⟩ := tt hT
  have kb := dM_b hm
  simp (disch := (first | assumption | omega | exact Nat.le_of_ble_eq_true rfl | rfl)) only [w363_642, w363_644, w363_645, w363_646, w363_648, w363_649, w363_650, w363_651, w363_652, w363_654, w363_655, w363_656, w363_657, Ko_n, Ko_v, vX_i, vX_r, vX_l, vX_j, reduceIte]
  refine r245 hI hB rfl r1.1 r1.2 r2.1 r2.2 hm fun b ρ hr => ?_
  obtain ⟨q1, q2, q3⟩ := hr
  have hb1 := Int32.le_toInt (i32 b)
  have hb2 := Int32.toInt_lt (i32 b)
  rw [← i32_toInt (i32 b)]
  generalize (i32 b).toInt = u at hb1 hb2 q3 ⊢
  simp (disch := (first | assumption | omega | exact Nat.le_of_ble_eq_true rfl | rfl)) only [w363_660, w363_662, w363_663, Ko_n, Ko_v, vX_i, vX_r, vX_l, vX_j, reduceIte]
  rw [c174, q2]
  by_cases e : kk = 0
  · have q4 := q3 e
    simp (disch := (first | assumption | omega | exact Nat.le_of_ble_eq_true rfl | rfl)) only [w363_666, w363_668, w363_671, w363_672, w363_673, w363_675, w363_678, w363_679, w363_680, w363_681, w363_683, w363_684, w363_688, w363_689, w363_690, Ko_n, Ko_v, vX_i, vX_r, vX_l, vX_j, reduceIte, e, q4, eq_self, not_true, if_true, if_false]
    exact next _ _ _ _ _ _ _ hta htb q1
  · simp (disch := (first | assumption | omega | exact Nat.le_of_ble_eq_true rfl | rfl)) only [w363_666, w363_668, w363_671, w363_672, w363_673, w363_675, w363_678, w363_679, w363_680, w363_681, w363_683, w363_684, w363_688, w363_689, w363_690, Ko_n, Ko_v, vX_i, vX_r, vX_l, vX_j, reduceIte, e, eq_self, not_false_eq_true, if_true, if_false]
    exact next _ _ _ _ _ _ _ hta htb q1
theorem k9_693 {d n : Nat} {i B : Int} {t1 t2 : Nat} {t3 : Bool} {S : Nat → Int} {σ : St} {Q : vmO → vmH → Prop} {l5 l6 l7 : Value} (hI : Inv B σ) (hB : B < 790000000) (h9 : 999 ≤ B) (i0 : 0 ≤ i) (i6 : i + 6 ≤ n) (nn : (n : Int) ≤ 3072) (hS : ∀ j : Nat, j < n → -2147483648 ≤ S j ∧ S j < 2147483648) (next : ∀ u1 u2 u3 ρ l5 l6 l7, u1 ≤ t1 + 1 → u2 ≤ t2 + 6 → Inv (B + 300000) ρ → Wp (d + 41) M_L_law 3253 [.ref 2000000, .ref 0, .ref 382, .ref 405, .int (i32 i), l5, l6, l7] [] (E (u1, u2, u3, n, S) ρ) Q) : Wp (d + 41) M_L_law 693 [.ref 2000000, .ref 0, .ref 382, .ref 405, .int (i32 i), l5, l6, l7] [] (E (t1, t2, t3, n, S) σ) Q := by
  have h1 : i + 1 < (n : Int) := by omega
  have h2 : i + 2 < (n : Int) := by omega
  have hn : (n : Int) < 2147483648 := by omega
  have r1 := hS (i + 1).toNat (by omega)
  have r2 := hS (i + 2).toNat (by omega)
  simp (disch := (first | assumption | omega | exact Nat.le_of_ble_eq_true rfl | rfl)) only [w363_693, w363_694, w363_695, w363_697, w363_698, w363_699, w363_700, w363_701, w363_703, w363_704, w363_705, w363_706, w363_707, Ko_n, Ko_v, vX_i, vX_r, vX_l, vX_j, reduceIte]
  refine l327 hI hB rfl r1.1 r1.2 r2.1 r2.2 fun kk T' τ hm hT => ?_
  obtain ⟨ta, tb, tc, rfl, hta, htb⟩ := tt hT
  have kb := dM_b hm
  simp (disch := (first | assumption | omega | exact Nat.le_of_ble_eq_true rfl | rfl)) only [w363_710, w363_712, w363_713, w363_714, w363_716, w363_717, w363_718, w363_719, w363_720, w363_722, w363_723, w363_724, w363_725, Ko_n, Ko_v, vX_i, vX_r, vX_l, vX_j, reduceIte]
  refine r248 hI hB rfl r1.1 r1.2 r2.1 r2.2 hm fun b ρ hr => ?_
  obtain ⟨q1, q2, q3⟩ := hr
  have hb1 := Int32.le_toInt (i32 b)
  have hb2 := Int32.toInt_lt (i32 b)
  rw [← i32_toInt (i32 b)]
  generalize (i32 b).toInt = u at hb1 hb2 q3 ⊢
  simp (disch := (first | assumption | omega | exact Nat.le_of_ble_eq_true rfl | rfl)) only [w363_728, w363_730, w363_731, Ko_n, Ko_v, vX_i, vX_r, vX_l, vX_j, reduceIte]
  rw [c174, q2]
  by_cases e : kk = 0
  · have q4 := q3 e
    simp (disch := (first | assumption | omega | exact Nat.le_of_ble_eq_true rfl | rfl)) only [w363_734, w363_736, w363_739, w363_740, w363_741, w363_743, w363_746, w363_747, w363_748, w363_749, w363_751, w363_752, w363_756, w363_757, w363_758, Ko_n, Ko_v, vX_i, vX_r, vX_l, vX_j, reduceIte, e, q4, eq_self, not_true, if_true, if_false]
    exact next _ _ _ _ _ _ _ hta htb q1
  · simp (disch := (first | assumption | omega | exact Nat.le_of_ble_eq_true rfl | rfl)) only [w363_734, w363_736, w363_739, w363_740, w363_741, w363_743, w363_746, w363_747, w363_748, w363_749, w363_751, w363_752, w363_756, w363_757, w363_758, Ko_n, Ko_v, vX_i, vX_r, vX_l, vX_j, reduceIte, e, eq_self, not_false_eq_true, if_true, if_false]
    exact next _ _ _ _ _ _ _ hta htb q1
theorem k10_761 {d n : Nat} {i B : Int} {t1 t2 : Nat} {t3 : Bool} {S : Nat → Int} {σ : St} {Q : vmO → vmH → Prop} {l5 l6 l7 : Value} (hI : Inv B σ) (hB : B < 790000000) (h9 : 999 ≤ B) (i0 : 0 ≤ i) (i6 : i + 6 ≤ n) (nn : (n : Int) ≤ 3072) (hS : ∀ j : Nat, j < n → -2147483648 ≤ S j ∧ S j < 2147483648) (next : ∀ u1 u2 u3 ρ l5 l6 l7, u1 ≤ t1 + 1 → u2 ≤ t2 + 6 → Inv (B + 300000) ρ → Wp (d + 41) M_L_law 3253 [.ref 2000000, .ref 0, .ref 382, .ref 405, .int (i32 i), l5, l6, l7] [] (E (u1, u2, u3, n, S) ρ) Q) : Wp (d + 41) M_L_law 761 [.ref 2000000, .ref 0, .ref 382, .ref 405, .int (i32 i), l5, l6, l7] [] (E (t1, t2, t3, n, S) σ) Q := by
  have h1 : i + 1 < (n : Int) := by omega
  have hn : (n : Int) < 2147483648 := by omega
  have r1 := hS (i + 1).toNat (by omega)
  simp (disch := (first | assumption | omega | exact Nat.le_of_ble_eq_true rfl | rfl)) only [w363_761, w363_762, w363_763, w363_765, w363_766, w363_767, w363_768, w363_769, Ko_n, Ko_v, vX_i, vX_r, vX_l, vX_j, reduceIte]
  refine l328 hI hB rfl r1.1 r1.2 fun kk T' τ hm hT => ?_
  obtain ⟨ta, tb, tc, rfl, hta, htb⟩ := tt hT
  have kb := dM_b hm
  simp (disch := (first | assumption | omega | exact Nat.le_of_ble_eq_true rfl | rfl)) only [w363_772, w363_774, w363_775, w363_776, w363_778, w363_779, w363_780, w363_781, Ko_n, Ko_v, vX_i, vX_r, vX_l, vX_j, reduceIte]
  refine r249 hI hB rfl r1.1 r1.2 hm fun b ρ hr => ?_
  obtain ⟨q1, q2, q3⟩ := hr
  have hb1 := Int32.le_toInt (i32 b)
  have hb2 := Int32.toInt_lt (i32 b)
  rw [← i32_toInt (i32 b)]
  generalize (i32 b).toInt = u at hb1 hb2 q3 ⊢
  simp (disch := (first | assumption | omega | exact Nat.le_of_ble_eq_true rfl | rfl)) only [w363_784, w363_786, w363_787, Ko_n, Ko_v, vX_i, vX_r, vX_l, vX_j, reduceIte]
  rw [c174, q2]
  by_cases e : kk = 0
  · have q4 := q3 e
    simp (disch := (first | assumption | omega | exact Nat.le_of_ble_eq_true rfl | rfl)) only [w363_790, w363_792, w363_795, w363_796, w363_797, w363_799, w363_802, w363_803, w363_804, w363_805, w363_807, w363_808, w363_812, w363_813, w363_814, Ko_n, Ko_v, vX_i, vX_r, vX_l, vX_j, reduceIte, e, q4, eq_self, not_true, if_true, if_false]
    exact next _ _ _ _ _ _ _ hta htb q1
  · simp (disch := (first | assumption | omega | exact Nat.le_of_ble_eq_true rfl | rfl)) only [w363_790, w363_792, w363_795, w363_796, w363_797, w363_799, w363_802, w363_803, w363_804, w363_805, w363_807, w363_808, w363_812, w363_813, w363_814, Ko_n, Ko_v, vX_i, vX_r, vX_l, vX_j, reduceIte, e, eq_self, not_false_eq_true, if_true, if_false]
    exact next _ _ _ _ _ _ _ hta htb q1
theorem k11_817 {d n : Nat} {i B : Int} {t1 t2 : Nat} {t3 : Bool} {S : Nat → Int} {σ : St} {Q : vmO → vmH → Prop} {l5 l6 l7 : Value} (hI : Inv B σ) (hB : B < 790000000) (h9 : 999 ≤ B) (i0 : 0 ≤ i) (i6 : i + 6 ≤ n) (nn : (n : Int) ≤ 3072) (hS : ∀ j : Nat, j < n → -2147483648 ≤ S j ∧ S j < 2147483648) (next : ∀ u1 u2 u3 ρ l5 l6 l7, u1 ≤ t1 + 1 → u2 ≤ t2 + 6 → Inv (B + 300000) ρ → Wp (d + 41) M_L_law 3253 [.ref 2000000, .ref 0, .ref 382, .ref 405, .int (i32 i), l5, l6, l7] [] (E (u1, u2, u3, n, S) ρ) Q) : Wp (d + 41) M_L_law 817 [.ref 2000000, .ref 0, .ref 382, .ref 405, .int (i32 i), l5, l6, l7] [] (E (t1, t2, t3, n, S) σ) Q := by
  have h1 : i + 1 < (n : Int) := by omega
  have hn : (n : Int) < 2147483648 := by omega
  have r1 := hS (i + 1).toNat (by omega)
  simp (disch := (first | assumption | omega | exact Nat.le_of_ble_eq_true rfl | rfl)) only [w363_817, w363_818, w363_819, w363_821, w363_822, w363_823, w363_824, w363_825, Ko_n, Ko_v, vX_i, vX_r, vX_l, vX_j, reduceIte]
  refine l329 hI hB rfl r1.1 r1.2 fun kk T' τ hm hT => ?_
  obtain ⟨ta, tb, tc, rfl, hta, htb⟩ := tt hT
  have kb := dM_b hm
  simp (disch := (first | assumption | omega | exact Nat.le_of_ble_eq_true rfl | rfl)) only [w363_828, w363_830, w363_831, w363_832, w363_834, w363_835, w363_836, w363_837, Ko_n, Ko_v, vX_i, vX_r, vX_l, vX_j, reduceIte]
  refine r250 hI hB rfl r1.1 r1.2 hm fun b ρ hr => ?_
  obtain ⟨q1, q2, q3⟩ := hr
  have hb1 := Int32.le_toInt (i32 b)
  have hb2 := Int32.toInt_lt (i32 b)
  rw [← i32_toInt (i32 b)]
  generalize (i32 b).toInt = u at hb1 hb2 q3 ⊢
  simp (disch := (first | assumption | omega | exact Nat.le_of_ble_eq_true rfl | rfl)) only [w363_840, w363_842, w363_843, Ko_n, Ko_v, vX_i, vX_r, vX_l, vX_j, reduceIte]
  rw [c174, q2]
  by_cases e : kk = 0
  · have q4 := q3 e
    simp (disch := (first | assumption | omega | exact Nat.le_of_ble_eq_true rfl | rfl)) only [w363_846, w363_848, w363_851, w363_852, w363_853, w363_855, w363_858, w363_859, w363_860, w363_861, w363_863, w363_864, w363_868, w363_869, w363_870, Ko_n, Ko_v, vX_i, vX_r, vX_l, vX_j, reduceIte, e, q4, eq_self, not_true, if_true, if_false]
    exact next _ _ _ _ _ _ _ hta htb q1
  · simp (disch := (first | assumption | omega | exact Nat.le_of_ble_eq_true rfl | rfl)) only [w363_846, w363_848, w363_851, w363_852, w363_853, w363_855, w363_858, w363_859, w363_860, w363_861, w363_863, w363_864, w363_868, w363_869, w363_870, Ko_n, Ko_v, vX_i, vX_r, vX_l, vX_j, reduceIte, e, eq_self, not_false_eq_true, if_true, if_false]
    exact next _ _ _ _ _ _ _ hta htb q1
theorem k12_873 {d n : Nat} {i B : Int} {t1 t2 : Nat} {t3 : Bool} {S : Nat → Int} {σ : St} {Q : vmO → vmH → Prop} {l5 l6 l7 : Value} (hI : Inv B σ) (hB : B < 790000000) (h9 : 999 ≤ B) (i0 : 0 ≤ i) (i6 : i + 6 ≤ n) (nn : (n : Int) ≤ 3072) (hS : ∀ j : Nat, j < n → -2147483648 ≤ S j ∧ S j < 2147483648) (next : ∀ u1 u2 u3 ρ l5 l6 l7, u1 ≤ t1 + 1 → u2 ≤ t2 + 6 → Inv (B + 300000) ρ → Wp (d + 41) M_L_law 3253 [.ref 2000000, .ref 0, .ref 382, .ref 405, .int (i32 i), l5, l6, l7] [] (E (u1, u2, u3, n, S) ρ) Q) : Wp (d + 41) M_L_law 873 [.ref 2000000, .ref 0, .ref 382, .ref 405, .int (i32 i), l5, l6, l7] [] (E (t1, t2, t3, n, S) σ) Q := by
  have h1 : i + 1 < (n : Int) := by omega
  have h2 : i + 2 < (n : Int) := by omega
  have hn : (n : Int) < 2147483648 := by omega
  have r1 := hS (i + 1).toNat (by omega)
  have r2 := hS (i + 2).toNat (by omega)
  simp (disch := (first | assumption | omega | exact Nat.le_of_ble_eq_true rfl | rfl)) only [w363_873, w363_874, w363_875, w363_877, w363_878, w363_879, w363_880, w363_881, w363_883, w363_884, w363_885, w363_886, w363_887, Ko_n, Ko_v, vX_i, vX_r, vX_l, vX_j, reduceIte]
  refine l330 hI hB rfl r1.1 r1.2 r2.1 r2.2 fun kk T' τ hm hT => ?_
  obtain ⟨ta, tb, tc, rfl, hta, htb⟩ := tt hT
  have kb := dM_b hm
  simp (disch := (first | assumption | omega | exact Nat.le_of_ble_eq_true rfl | rfl)) only [w363_890, w363_892, w363_893, w363_894, w363_896, w363_897, w363_898, w363_899, w363_900, w363_902, w363_903, w363_904, w363_905, Ko_n, Ko_v, vX_i, vX_r, vX_l, vX_j, reduceIte]
  refine r254 hI hB rfl r1.1 r1.2 r2.1 r2.2 hm fun b ρ hr => ?_
  obtain ⟨q1, q2, q3⟩ := hr
  have hb1 := Int32.le_toInt (i32 b)
  have hb2 := Int32.toInt_lt (i32 b)
  rw [← i32_toInt (i32 b)]
  generalize (i32 b).toInt = u at hb1 hb2 q3 ⊢
  simp (disch := (first | assumption | omega | exact Nat.le_of_ble_eq_true rfl | rfl)) only [w363_908, w363_910, w363_911, Ko_n, Ko_v, vX_i, vX_r, vX_l, vX_j, reduceIte]
  rw [c174, q2]
  by_cases e : kk = 0
  · have q4 := q3 e
    simp (disch := (first | assumption | omega | exact Nat.le_of_ble_eq_true rfl | rfl)) only [w363_914, w363_916, w363_919, w363_920, w363_921, w363_923, w363_926, w363_927, w363_928, w363_929, w363_931, w363_932, w363_936, w363_937, w363_938, Ko_n, Ko_v, vX_i, vX_r, vX_l, vX_j, reduceIte, e, q4, eq_self, not_true, if_true, if_false]
    exact next _ _ _ _ _ _ _ hta htb q1
  · simp (disch := (first | assumption | omega | exact Nat.le_of_ble_eq_true rfl | rfl)) only [w363_914, w363_916, w363_919, w363_920, w363_921, w363_923, w363_926, w363_927, w363_928, w363_929, w363_931, w363_932, w363_936, w363_937, w363_938, Ko_n, Ko_v, vX_i, vX_r, vX_l, vX_j, reduceIte, e, eq_self, not_false_eq_true, if_true, if_false]
    exact next _ _ _ _ _ _ _ hta htb q1
theorem k13_941 {d n : Nat} {i B : Int} {t1 t2 : Nat} {t3 : Bool} {S : Nat → Int} {σ : St} {Q : vmO → vmH → Prop} {l5 l6 l7 : Value} (hI : Inv B σ) (hB : B < 790000000) (h9 : 999 ≤ B) (i0 : 0 ≤ i) (i6 : i + 6 ≤ n) (nn : (n : Int) ≤ 3072) (hS : ∀ j : Nat, j < n → -2147483648 ≤ S j ∧ S j < 2147483648) (next : ∀ u1 u2 u3 ρ l5 l6 l7, u1 ≤ t1 + 1 → u2 ≤ t2 + 6 → Inv (B + 300000) ρ → Wp (d + 41) M_L_law 3253 [.ref 2000000, .ref 0, .ref 382, .ref 405, .int (i32 i), l5, l6, l7] [] (E (u1, u2, u3, n, S) ρ) Q) : Wp (d + 41) M_L_law 941 [.ref 2000000, .ref 0, .ref 382, .ref 405, .int (i32 i), l5, l6, l7] [] (E (t1, t2, t3, n, S) σ) Q := by
  have h1 : i + 1 < (n : Int) := by omega
  have hn : (n : Int) < 2147483648 := by omega
  have r1 := hS (i + 1).toNat (by omega)
  simp (disch := (first | assumption | omega | exact Nat.le_of_ble_eq_true rfl | rfl)) only [w363_941, w363_942, w363_943, w363_945, w363_946, w363_947, w363_948, w363_949, Ko_n, Ko_v, vX_i, vX_r, vX_l, vX_j, reduceIte]
  refine l331 hI hB rfl r1.1 r1.2 fun kk T' τ hm hT => ?_
  obtain ⟨ta, tb, tc, rfl, hta, htb⟩ := tt hT
  have kb := dM_b hm
  simp (disch := (first | assumption | omega | exact Nat.le_of_ble_eq_true rfl | rfl)) only [w363_952, w363_954, w363_955, w363_956, w363_958, w363_959, w363_960, w363_961, Ko_n, Ko_v, vX_i, vX_r, vX_l, vX_j, reduceIte]
  refine r255 hI hB rfl r1.1 r1.2 hm fun b ρ hr => ?_
  obtain ⟨q1, q2, q3⟩ := hr
  have hb1 := Int32.le_toInt (i32 b)
  have hb2 := Int32.toInt_lt (i32 b)
  rw [← i32_toInt (i32 b)]
  generalize (i32 b).toInt = u at hb1 hb2 q3 ⊢
  simp (disch := (first | assumption | omega | exact Nat.le_of_ble_eq_true rfl | rfl)) only [w363_964, w363_966, w363_967, Ko_n, Ko_v, vX_i, vX_r, vX_l, vX_j, reduceIte]
  rw [c174, q2]
  by_cases e : kk = 0
  · have q4 := q3 e
    simp (disch := (first | assumption | omega | exact Nat.le_of_ble_eq_true rfl | rfl)) only [w363_970, w363_972, w363_975, w363_976, w363_977, w363_979, w363_982, w363_983, w363_984, w363_985, w363_987, w363_988, w363_992, w363_993, w363_994, Ko_n, Ko_v, vX_i, vX_r, vX_l, vX_j, reduceIte, e, q4, eq_self, not_true, if_true, if_false]
    exact next _ _ _ _ _ _ _ hta htb q1
  · simp (disch := (first | assumption | omega | exact Nat.le_of_ble_eq_true rfl | rfl)) only [w363_970, w363_972, w363_975, w363_976, w363_977, w363_979, w363_982, w363_983, w363_984, w363_985, w363_987, w363_988, w363_992, w363_993, w363_994, Ko_n, Ko_v, vX_i, vX_r, vX_l, vX_j, reduceIte, e, eq_self, not_false_eq_true, if_true, if_false]
    exact next _ _ _ _ _ _ _ hta htb q1
