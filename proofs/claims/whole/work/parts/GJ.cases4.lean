/-! ===== the law's other cases ===== -/
theorem k0_240 {d n : Nat} {i B : Int} {t1 t2 : Nat} {t3 : Bool} {S : Nat → Int} {σ : St} {Q : vmO → vmH → Prop} {l5 l6 l7 : Value} (hI : Inv B σ) (hB : B < 790000000) (h9 : 999 ≤ B) (i0 : 0 ≤ i) (i6 : i + 6 ≤ n) (nn : (n : Int) ≤ 3072) (hS : ∀ j : Nat, j < n → -2147483648 ≤ S j ∧ S j < 2147483648) (next : ∀ u1 u2 u3 ρ l5 l6 l7, u1 ≤ t1 + 1 → u2 ≤ t2 + 6 → Inv (B + 300000) ρ → Wp (d + 41) M_L_law 3253 [.ref 2000000, .ref 0, .ref 382, .ref 405, .int (i32 i), l5, l6, l7] [] (E (u1, u2, u3, n, S) ρ) Q) : Wp (d + 41) M_L_law 240 [.ref 2000000, .ref 0, .ref 382, .ref 405, .int (i32 i), l5, l6, l7] [] (E (t1, t2, t3, n, S) σ) Q := by
  have h1 : i + 1 < (n : Int) := by omega
  have h2 : i + 2 < (n : Int) := by omega
  have h3 : i + 3 < (n : Int) := by omega
  have h4 : i + 4 < (n : Int) := by omega
  have h5 : i + 5 < (n : Int) := by omega
  have hn : (n : Int) < 2147483648 := by omega
  have r1 := hS (i + 1).toNat (by omega)
  have r2 := hS (i + 2).toNat (by omega)
  have r3 := hS (i + 3).toNat (by omega)
  have r4 := hS (i + 4).toNat (by omega)
  have r5 := hS (i + 5).toNat (by omega)
  simp (disch := (first | assumption | omega | exact Nat.le_of_ble_eq_true rfl | rfl)) only [w363_240, w363_241, w363_242, w363_244, w363_245, w363_246, w363_247, w363_248, w363_250, w363_251, w363_252, w363_253, w363_254, w363_256, w363_257, w363_258, w363_259, w363_260, w363_262, w363_263, w363_264, w363_265, w363_266, w363_268, w363_269, w363_270, w363_271, Ko_n, Ko_v, vX_i, vX_r, vX_l, vX_j, reduceIte]
  refine f113 hI fun v τ hm hv => ?_
  simp (disch := (first | assumption | omega | exact Nat.le_of_ble_eq_true rfl | rfl)) only [w363_274, w363_275, w363_276, w363_278, w363_279, w363_280, w363_281, w363_282, w363_284, w363_285, w363_286, w363_287, w363_288, w363_290, w363_291, w363_292, w363_293, w363_294, w363_296, w363_297, w363_298, w363_299, w363_300, w363_302, w363_303, w363_304, w363_305, Ko_n, Ko_v, vX_i, vX_r, vX_l, vX_j, reduceIte]
  refine g179 hI hm fun ρ hr => ?_
  simp (disch := (first | assumption | omega | exact Nat.le_of_ble_eq_true rfl | rfl)) only [w363_308, w363_311, w363_312, Ko_n, Ko_v, vX_i, vX_r, vX_l, vX_j, reduceIte, eq_self, if_true]
  exact next _ _ _ _ _ _ _ (by omega) (by omega) (Inv_le hr (by omega))
theorem k2_369 {d n : Nat} {i B : Int} {t1 t2 : Nat} {t3 : Bool} {S : Nat → Int} {σ : St} {Q : vmO → vmH → Prop} {l5 l6 l7 : Value} (hI : Inv B σ) (hB : B < 790000000) (h9 : 999 ≤ B) (i0 : 0 ≤ i) (i6 : i + 6 ≤ n) (nn : (n : Int) ≤ 3072) (hS : ∀ j : Nat, j < n → -2147483648 ≤ S j ∧ S j < 2147483648) (next : ∀ u1 u2 u3 ρ l5 l6 l7, u1 ≤ t1 + 1 → u2 ≤ t2 + 6 → Inv (B + 300000) ρ → Wp (d + 41) M_L_law 3253 [.ref 2000000, .ref 0, .ref 382, .ref 405, .int (i32 i), l5, l6, l7] [] (E (u1, u2, u3, n, S) ρ) Q) : Wp (d + 41) M_L_law 369 [.ref 2000000, .ref 0, .ref 382, .ref 405, .int (i32 i), l5, l6, l7] [] (E (t1, t2, t3, n, S) σ) Q := by
  have h1 : i + 1 < (n : Int) := by omega
  have hn : (n : Int) < 2147483648 := by omega
  have r1 := hS (i + 1).toNat (by omega)
  have c1 := hI.2.2.1.1
  have c2 := hI.2.2.1.2.1
  simp (disch := (first | assumption | omega | exact Nat.le_of_ble_eq_true rfl | rfl)) only [w363_369, w363_370, w363_371, w363_373, w363_374, w363_375, w363_376, Ko_n, Ko_v, vX_i, vX_r, vX_l, vX_j, reduceIte]
  rw [c116 r1.1 r1.2]
  simp (disch := (first | assumption | omega | exact Nat.le_of_ble_eq_true rfl | rfl)) only [w363_379, w363_380, w363_381, w363_383, w363_384, w363_385, w363_386, Ko_n, Ko_v, vX_i, vX_r, vX_l, vX_j, reduceIte]
  rw [c209 r1.1 r1.2, c1, c2]
  generalize (if S (i + 1).toNat = 0 then σ 1214 382 0 else if S (i + 1).toNat = 1 then σ 1215 382 0 else -1) = X
  have hb1 := Int32.le_toInt (i32 X)
  have hb2 := Int32.toInt_lt (i32 X)
  rw [← i32_toInt (i32 X)]
  generalize (i32 X).toInt = u at hb1 hb2 ⊢
  simp (disch := (first | assumption | omega | exact Nat.le_of_ble_eq_true rfl | rfl)) only [w363_389, w363_392, w363_393, Ko_n, Ko_v, vX_i, vX_r, vX_l, vX_j, reduceIte, eq_self, if_true]
  exact next _ _ _ _ _ _ _ (by omega) (by omega) (Inv_le (Inv_4 hI) (by omega))
theorem k5_530 {d n : Nat} {i B : Int} {t1 t2 : Nat} {t3 : Bool} {S : Nat → Int} {σ : St} {Q : vmO → vmH → Prop} {l5 l6 l7 : Value} (hI : Inv B σ) (hB : B < 790000000) (h9 : 999 ≤ B) (i0 : 0 ≤ i) (i6 : i + 6 ≤ n) (nn : (n : Int) ≤ 3072) (hS : ∀ j : Nat, j < n → -2147483648 ≤ S j ∧ S j < 2147483648) (next : ∀ u1 u2 u3 ρ l5 l6 l7, u1 ≤ t1 + 1 → u2 ≤ t2 + 6 → Inv (B + 300000) ρ → Wp (d + 41) M_L_law 3253 [.ref 2000000, .ref 0, .ref 382, .ref 405, .int (i32 i), l5, l6, l7] [] (E (u1, u2, u3, n, S) ρ) Q) : Wp (d + 41) M_L_law 530 [.ref 2000000, .ref 0, .ref 382, .ref 405, .int (i32 i), l5, l6, l7] [] (E (t1, t2, t3, n, S) σ) Q := by
  have hn : (n : Int) < 2147483648 := by omega
  have hv := hI.1.2.1
  simp (disch := (first | assumption | omega | exact Nat.le_of_ble_eq_true rfl | rfl)) only [w363_530, w363_531, Ko_n, Ko_v, vX_i, vX_r, vX_l, vX_j, reduceIte]
  conv => arg 1; rw [show d + 40 = (d + 38) + 2 from rfl]
  rw [k119 hI.1.1 hv (by omega)]
  simp (disch := (first | assumption | omega | exact Nat.le_of_ble_eq_true rfl | rfl)) only [w363_534, w363_535, Ko_n, Ko_v, vX_i, vX_r, vX_l, vX_j, reduceIte]
  rw [c229 rfl hv]
  simp (disch := (first | assumption | omega | exact Nat.le_of_ble_eq_true rfl | rfl)) only [w363_538, w363_542, w363_543, Ko_n, Ko_v, vX_i, vX_r, vX_l, vX_j, reduceIte, eq_self, if_true]
  exact next _ _ _ _ _ _ _ (by omega) (by omega) (Inv_le (Inv_4 hI) (by omega))
theorem k6_544 {d n : Nat} {i B : Int} {t1 t2 : Nat} {t3 : Bool} {S : Nat → Int} {σ : St} {Q : vmO → vmH → Prop} {l5 l6 l7 : Value} (hI : Inv B σ) (hB : B < 790000000) (h9 : 999 ≤ B) (i0 : 0 ≤ i) (i6 : i + 6 ≤ n) (nn : (n : Int) ≤ 3072) (hS : ∀ j : Nat, j < n → -2147483648 ≤ S j ∧ S j < 2147483648) (next : ∀ u1 u2 u3 ρ l5 l6 l7, u1 ≤ t1 + 1 → u2 ≤ t2 + 6 → Inv (B + 300000) ρ → Wp (d + 41) M_L_law 3253 [.ref 2000000, .ref 0, .ref 382, .ref 405, .int (i32 i), l5, l6, l7] [] (E (u1, u2, u3, n, S) ρ) Q) : Wp (d + 41) M_L_law 544 [.ref 2000000, .ref 0, .ref 382, .ref 405, .int (i32 i), l5, l6, l7] [] (E (t1, t2, t3, n, S) σ) Q := by
  have hn : (n : Int) < 2147483648 := by omega
  have hv := hI.1.2.1
  simp (disch := (first | assumption | omega | exact Nat.le_of_ble_eq_true rfl | rfl)) only [w363_544, w363_545, Ko_n, Ko_v, vX_i, vX_r, vX_l, vX_j, reduceIte]
  rw [k120 hI.1.1 hv (by omega)]
  simp (disch := (first | assumption | omega | exact Nat.le_of_ble_eq_true rfl | rfl)) only [w363_548, w363_549, Ko_n, Ko_v, vX_i, vX_r, vX_l, vX_j, reduceIte]
  rw [c230 rfl hv]
  generalize smI (tkK (σ 1200 382) 7) 36 = X
  have hb1 := Int32.le_toInt (i32 X)
  have hb2 := Int32.toInt_lt (i32 X)
  rw [← i32_toInt (i32 X)]
  generalize (i32 X).toInt = u at hb1 hb2 ⊢
  simp (disch := (first | assumption | omega | exact Nat.le_of_ble_eq_true rfl | rfl)) only [w363_552, w363_555, w363_556, Ko_n, Ko_v, vX_i, vX_r, vX_l, vX_j, reduceIte, eq_self, if_true]
  exact next _ _ _ _ _ _ _ (by omega) (by omega) (Inv_le (Inv_4 hI) (by omega))
theorem k45_3228 {d n : Nat} {i B : Int} {t1 t2 : Nat} {t3 : Bool} {S : Nat → Int} {σ : St} {Q : vmO → vmH → Prop} {l5 l6 l7 : Value} (hI : Inv B σ) (hB : B < 790000000) (h9 : 999 ≤ B) (i0 : 0 ≤ i) (i6 : i + 6 ≤ n) (nn : (n : Int) ≤ 3072) (hS : ∀ j : Nat, j < n → -2147483648 ≤ S j ∧ S j < 2147483648) (next : ∀ u1 u2 u3 ρ l5 l6 l7, u1 ≤ t1 + 1 → u2 ≤ t2 + 6 → Inv (B + 300000) ρ → Wp (d + 41) M_L_law 3253 [.ref 2000000, .ref 0, .ref 382, .ref 405, .int (i32 i), l5, l6, l7] [] (E (u1, u2, u3, n, S) ρ) Q) : Wp (d + 41) M_L_law 3228 [.ref 2000000, .ref 0, .ref 382, .ref 405, .int (i32 i), l5, l6, l7] [] (E (t1, t2, t3, n, S) σ) Q := by
  have h1 : i + 1 < (n : Int) := by omega
  have hn : (n : Int) < 2147483648 := by omega
  have r1 := hS (i + 1).toNat (by omega)
  have hv := hI.1.2.1
  have b2 := hI.2.1.2.1
  simp (disch := (first | assumption | omega | exact Nat.le_of_ble_eq_true rfl | rfl)) only [w363_3228, w363_3229, w363_3230, w363_3232, w363_3233, w363_3234, w363_3235, Ko_n, Ko_v, vX_i, vX_r, vX_l, vX_j, reduceIte]
  conv => arg 1; rw [show d + 40 = (d + 38) + 2 from rfl]
  rw [k162 hI.1.1 hv (by omega) r1.1 r1.2, b2]
  simp (disch := (first | assumption | omega | exact Nat.le_of_ble_eq_true rfl | rfl)) only [w363_3238, w363_3239, w363_3240, w363_3242, w363_3243, w363_3244, w363_3245, Ko_n, Ko_v, vX_i, vX_r, vX_l, vX_j, reduceIte]
  rw [c306 rfl hv (by omega) r1.1 r1.2]
  generalize ctR (σ 1200 382) (σ 1206 382 0) (S (i + 1).toNat) = X
  have hb1 := Int32.le_toInt (i32 X)
  have hb2 := Int32.toInt_lt (i32 X)
  rw [← i32_toInt (i32 X)]
  generalize (i32 X).toInt = u at hb1 hb2 ⊢
  simp (disch := (first | assumption | omega | exact Nat.le_of_ble_eq_true rfl | rfl)) only [w363_3248, w363_3251, w363_3252, Ko_n, Ko_v, vX_i, vX_r, vX_l, vX_j, reduceIte, eq_self, if_true]
  exact next _ _ _ _ _ _ _ (by omega) (by omega) (Inv_le (Inv_4 hI) (by omega))
theorem k26_1871 {d n : Nat} {i B : Int} {t1 t2 : Nat} {t3 : Bool} {S : Nat → Int} {σ : St} {Q : vmO → vmH → Prop} {l5 l6 l7 : Value} (hI : Inv B σ) (hB : B < 790000000) (h9 : 999 ≤ B) (i0 : 0 ≤ i) (i6 : i + 6 ≤ n) (nn : (n : Int) ≤ 3072) (hS : ∀ j : Nat, j < n → -2147483648 ≤ S j ∧ S j < 2147483648) (next : ∀ u1 u2 u3 ρ l5 l6 l7, u1 ≤ t1 + 1 → u2 ≤ t2 + 6 → Inv (B + 300000) ρ → Wp (d + 41) M_L_law 3253 [.ref 2000000, .ref 0, .ref 382, .ref 405, .int (i32 i), l5, l6, l7] [] (E (u1, u2, u3, n, S) ρ) Q) : Wp (d + 41) M_L_law 1871 [.ref 2000000, .ref 0, .ref 382, .ref 405, .int (i32 i), l5, l6, l7] [] (E (t1, t2, t3, n, S) σ) Q := by
  have h1 : i + 1 < (n : Int) := by omega
  have h2 : i + 2 < (n : Int) := by omega
  have h3 : i + 3 < (n : Int) := by omega
  have h4 : i + 4 < (n : Int) := by omega
  have hn : (n : Int) < 2147483648 := by omega
  have r1 := hS (i + 1).toNat (by omega)
  have r2 := hS (i + 2).toNat (by omega)
  have r3 := hS (i + 3).toNat (by omega)
  have r4 := hS (i + 4).toNat (by omega)
  by_cases hz : S (i + 3).toNat = 0
  · simp (disch := (first | assumption | omega | exact Nat.le_of_ble_eq_true rfl | rfl)) only [w363_1871, w363_1872, w363_1873, w363_1875, w363_1876, w363_1877, w363_1878, w363_1879, w363_1881, w363_1882, w363_1883, w363_1884, w363_1885, w363_1887, w363_1888, w363_1889, w363_1890, w363_1893, w363_1894, w363_1897, w363_1898, w363_1899, w363_1901, w363_1902, w363_1903, w363_1904, w363_1905, Ko_n, Ko_v, vX_i, vX_r, vX_l, vX_j, reduceIte, hz]
    refine l344 hI hB rfl r1.1 r1.2 r2.1 r2.2 (Or.inl rfl) r4.1 r4.2 fun kk T' τ hm hT => ?_
    obtain ⟨ta, tb, tc, rfl, hta, htb⟩ := tt hT
    have kb := qM_b hm
    simp (disch := (first | assumption | omega | exact Nat.le_of_ble_eq_true rfl | rfl)) only [w363_1908, w363_1910, w363_1911, w363_1912, w363_1914, w363_1915, w363_1916, w363_1917, w363_1918, w363_1920, w363_1921, w363_1922, w363_1923, w363_1924, w363_1926, w363_1927, w363_1928, w363_1929, w363_1932, w363_1933, w363_1936, w363_1937, w363_1938, w363_1940, w363_1941, w363_1942, w363_1943, Ko_n, Ko_v, vX_i, vX_r, vX_l, vX_j, reduceIte, hz]
    refine r276 hI hB rfl r1.1 r1.2 r2.1 r2.2 (Or.inl rfl) r4.1 r4.2 hm fun b ρ hr => ?_
    obtain ⟨q1, q2, q3⟩ := hr
    have hb1 := Int32.le_toInt (i32 b)
    have hb2 := Int32.toInt_lt (i32 b)
    rw [← i32_toInt (i32 b)]
    generalize (i32 b).toInt = u at hb1 hb2 q3 ⊢
    simp (disch := (first | assumption | omega | exact Nat.le_of_ble_eq_true rfl | rfl)) only [w363_1946, w363_1948, w363_1949, Ko_n, Ko_v, vX_i, vX_r, vX_l, vX_j, reduceIte]
    rw [c174, q2]
    by_cases e : kk = 0
    · have q4 := q3 e
      simp (disch := (first | assumption | omega | exact Nat.le_of_ble_eq_true rfl | rfl)) only [w363_1952, w363_1954, w363_1957, w363_1958, w363_1959, w363_1961, w363_1964, w363_1965, w363_1966, w363_1967, w363_1969, w363_1970, w363_1974, w363_1975, w363_1976, Ko_n, Ko_v, vX_i, vX_r, vX_l, vX_j, reduceIte, e, q4, eq_self, not_true, if_true, if_false]
      exact next _ _ _ _ _ _ _ hta htb q1
    · simp (disch := (first | assumption | omega | exact Nat.le_of_ble_eq_true rfl | rfl)) only [w363_1952, w363_1954, w363_1957, w363_1958, w363_1959, w363_1961, w363_1964, w363_1965, w363_1966, w363_1967, w363_1969, w363_1970, w363_1974, w363_1975, w363_1976, Ko_n, Ko_v, vX_i, vX_r, vX_l, vX_j, reduceIte, e, eq_self, not_false_eq_true, if_true, if_false]
      exact next _ _ _ _ _ _ _ hta htb q1
  · simp (disch := (first | assumption | omega | exact Nat.le_of_ble_eq_true rfl | rfl)) only [w363_1871, w363_1872, w363_1873, w363_1875, w363_1876, w363_1877, w363_1878, w363_1879, w363_1881, w363_1882, w363_1883, w363_1884, w363_1885, w363_1887, w363_1888, w363_1889, w363_1890, w363_1893, w363_1894, w363_1897, w363_1898, w363_1899, w363_1901, w363_1902, w363_1903, w363_1904, w363_1905, Ko_n, Ko_v, vX_i, vX_r, vX_l, vX_j, reduceIte, hz]
    refine l344 hI hB rfl r1.1 r1.2 r2.1 r2.2 (Or.inr rfl) r4.1 r4.2 fun kk T' τ hm hT => ?_
    obtain ⟨ta, tb, tc, rfl, hta, htb⟩ := tt hT
    have kb := qM_b hm
    simp (disch := (first | assumption | omega | exact Nat.le_of_ble_eq_true rfl | rfl)) only [w363_1908, w363_1910, w363_1911, w363_1912, w363_1914, w363_1915, w363_1916, w363_1917, w363_1918, w363_1920, w363_1921, w363_1922, w363_1923, w363_1924, w363_1926, w363_1927, w363_1928, w363_1929, w363_1932, w363_1933, w363_1936, w363_1937, w363_1938, w363_1940, w363_1941, w363_1942, w363_1943, Ko_n, Ko_v, vX_i, vX_r, vX_l, vX_j, reduceIte, hz]
    refine r276 hI hB rfl r1.1 r1.2 r2.1 r2.2 (Or.inr rfl) r4.1 r4.2 hm fun b ρ hr => ?_
    obtain ⟨q1, q2, q3⟩ := hr
    have hb1 := Int32.le_toInt (i32 b)
    have hb2 := Int32.toInt_lt (i32 b)
    rw [← i32_toInt (i32 b)]
    generalize (i32 b).toInt = u at hb1 hb2 q3 ⊢
    simp (disch := (first | assumption | omega | exact Nat.le_of_ble_eq_true rfl | rfl)) only [w363_1946, w363_1948, w363_1949, Ko_n, Ko_v, vX_i, vX_r, vX_l, vX_j, reduceIte]
    rw [c174, q2]
    by_cases e : kk = 0
    · have q4 := q3 e
      simp (disch := (first | assumption | omega | exact Nat.le_of_ble_eq_true rfl | rfl)) only [w363_1952, w363_1954, w363_1957, w363_1958, w363_1959, w363_1961, w363_1964, w363_1965, w363_1966, w363_1967, w363_1969, w363_1970, w363_1974, w363_1975, w363_1976, Ko_n, Ko_v, vX_i, vX_r, vX_l, vX_j, reduceIte, e, q4, eq_self, not_true, if_true, if_false]
      exact next _ _ _ _ _ _ _ hta htb q1
    · simp (disch := (first | assumption | omega | exact Nat.le_of_ble_eq_true rfl | rfl)) only [w363_1952, w363_1954, w363_1957, w363_1958, w363_1959, w363_1961, w363_1964, w363_1965, w363_1966, w363_1967, w363_1969, w363_1970, w363_1974, w363_1975, w363_1976, Ko_n, Ko_v, vX_i, vX_r, vX_l, vX_j, reduceIte, e, eq_self, not_false_eq_true, if_true, if_false]
      exact next _ _ _ _ _ _ _ hta htb q1
theorem k41_2989 {d n : Nat} {i B : Int} {t1 t2 : Nat} {t3 : Bool} {S : Nat → Int} {σ : St} {Q : vmO → vmH → Prop} {l5 l6 l7 : Value} (hI : Inv B σ) (hB : B < 790000000) (h9 : 999 ≤ B) (i0 : 0 ≤ i) (i6 : i + 6 ≤ n) (nn : (n : Int) ≤ 3072) (hS : ∀ j : Nat, j < n → -2147483648 ≤ S j ∧ S j < 2147483648) (next : ∀ u1 u2 u3 ρ l5 l6 l7, u1 ≤ t1 + 1 → u2 ≤ t2 + 6 → Inv (B + 300000) ρ → Wp (d + 41) M_L_law 3253 [.ref 2000000, .ref 0, .ref 382, .ref 405, .int (i32 i), l5, l6, l7] [] (E (u1, u2, u3, n, S) ρ) Q) : Wp (d + 41) M_L_law 2989 [.ref 2000000, .ref 0, .ref 382, .ref 405, .int (i32 i), l5, l6, l7] [] (E (t1, t2, t3, n, S) σ) Q := by
  have h1 : i + 1 < (n : Int) := by omega
  have h2 : i + 2 < (n : Int) := by omega
  have h3 : i + 3 < (n : Int) := by omega
  have h4 : i + 4 < (n : Int) := by omega
  have hn : (n : Int) < 2147483648 := by omega
  have r1 := hS (i + 1).toNat (by omega)
  have r2 := hS (i + 2).toNat (by omega)
  have r3 := hS (i + 3).toNat (by omega)
  have r4 := hS (i + 4).toNat (by omega)
  simp (disch := (first | assumption | omega | exact Nat.le_of_ble_eq_true rfl | rfl)) only [w363_2989, w363_2990, w363_2991, w363_2993, w363_2994, w363_2995, w363_2996, w363_2997, w363_2999, w363_3000, w363_3001, w363_3002, w363_3003, w363_3005, w363_3006, w363_3007, w363_3008, w363_3009, w363_3011, w363_3012, w363_3013, w363_3015, w363_3016, w363_3017, w363_3018, w363_3019, w363_3022, w363_3023, w363_3024, w363_3025, Ko_n, Ko_v, vX_i, vX_r, vX_l, vX_j, reduceIte]
  refine l359 hI r1.1 r1.2 r2.1 r2.2 fun kk T' τ hm hT => ?_
  obtain ⟨ta, tb, tc, rfl, hta, htb⟩ := tt hT
  have kb := wtM_b hm
  simp (disch := (first | assumption | omega | exact Nat.le_of_ble_eq_true rfl | rfl)) only [w363_3028, w363_3030, w363_3031, w363_3032, w363_3034, w363_3035, w363_3036, w363_3037, w363_3038, w363_3040, w363_3041, w363_3042, w363_3043, w363_3044, w363_3046, w363_3047, w363_3048, w363_3049, w363_3050, w363_3052, w363_3053, w363_3054, w363_3056, w363_3057, w363_3058, w363_3059, w363_3060, w363_3063, w363_3064, w363_3065, Ko_n, Ko_v, vX_i, vX_r, vX_l, vX_j, reduceIte]
  refine r301 hI r1.1 r1.2 r2.1 r2.2 hm fun b ρ hr => ?_
  obtain ⟨q1, q2, q3⟩ := hr
  simp (disch := (first | assumption | omega | exact Nat.le_of_ble_eq_true rfl | rfl)) only [w363_3068, w363_3070, w363_3071, Ko_n, Ko_v, vX_i, vX_r, vX_l, vX_j, reduceIte]
  rw [c174, q2]
  by_cases e : kk = 0
  · have q4 := q3 e
    simp (disch := (first | assumption | omega | exact Nat.le_of_ble_eq_true rfl | rfl)) only [w363_3074, w363_3076, w363_3079, w363_3080, w363_3081, w363_3083, w363_3086, w363_3087, w363_3088, w363_3089, w363_3091, w363_3095, w363_3096, w363_3097, Ko_n, Ko_v, vX_i, vX_r, vX_l, vX_j, reduceIte, e, q4, eq_self, not_true, if_true, if_false]
    exact next _ _ _ _ _ _ _ hta htb q1
  · simp (disch := (first | assumption | omega | exact Nat.le_of_ble_eq_true rfl | rfl)) only [w363_3074, w363_3076, w363_3079, w363_3080, w363_3081, w363_3083, w363_3086, w363_3087, w363_3088, w363_3089, w363_3091, w363_3095, w363_3096, w363_3097, Ko_n, Ko_v, vX_i, vX_r, vX_l, vX_j, reduceIte, e, eq_self, not_false_eq_true, if_true, if_false]
    exact next _ _ _ _ _ _ _ hta htb q1
