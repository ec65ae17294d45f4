/-! ===== the law's cases (by program), 2 ===== -/
theorem k24_1735 {d n : Nat} {i B : Int} {t1 t2 : Nat} {t3 : Bool} {S : Nat → Int} {σ : St} {Q : vmO → vmH → Prop} {l5 l6 l7 : Value} (hI : Inv B σ) (hB : B < 790000000) (h9 : 999 ≤ B) (i0 : 0 ≤ i) (i6 : i + 6 ≤ n) (nn : (n : Int) ≤ 3072) (hS : ∀ j : Nat, j < n → -2147483648 ≤ S j ∧ S j < 2147483648) (next : ∀ u1 u2 u3 ρ l5 l6 l7, u1 ≤ t1 + 1 → u2 ≤ t2 + 6 → Inv (B + 300000) ρ → Wp (d + 41) M_L_law 3253 [.ref 2000000, .ref 0, .ref 382, .ref 405, .int (i32 i), l5, l6, l7] [] (E (u1, u2, u3, n, S) ρ) Q) : Wp (d + 41) M_L_law 1735 [.ref 2000000, .ref 0, .ref 382, .ref 405, .int (i32 i), l5, l6, l7] [] (E (t1, t2, t3, n, S) σ) Q := by
  have h1 : i + 1 < (n : Int) := by omega
  have h2 : i + 2 < (n : Int) := by omega
  have hn : (n : Int) < 2147483648 := by omega
  have r1 := hS (i + 1).toNat (by omega)
  have r2 := hS (i + 2).toNat (by omega)
  simp (disch := (first | assumption | omega | exact Nat.le_of_ble_eq_true rfl | rfl)) only [w363_1735, w363_1736, w363_1737, w363_1739, w363_1740, w363_1741, w363_1742, w363_1743, w363_1745, w363_1746, w363_1747, w363_1748, w363_1749, Ko_n, Ko_v, vX_i, vX_r, vX_l, vX_j, reduceIte]
  refine l342 hI hB rfl r1.1 r1.2 r2.1 r2.2 fun kk T' τ hm hT => ?_
  obtain ⟨ta, tb, tc, rfl, hta, htb⟩ := tt hT
  have kb := qM_b hm
  simp (disch := (first | assumption | omega | exact Nat.le_of_ble_eq_true rfl | rfl)) only [w363_1752, w363_1754, w363_1755, w363_1756, w363_1758, w363_1759, w363_1760, w363_1761, w363_1762, w363_1764, w363_1765, w363_1766, w363_1767, Ko_n, Ko_v, vX_i, vX_r, vX_l, vX_j, reduceIte]
  refine r273 hI hB rfl r1.1 r1.2 r2.1 r2.2 hm fun b ρ hr => ?_
  obtain ⟨q1, q2, q3⟩ := hr
  have hb1 := Int32.le_toInt (i32 b)
  have hb2 := Int32.toInt_lt (i32 b)
  rw [← i32_toInt (i32 b)]
  generalize (i32 b).toInt = u at hb1 hb2 q3 ⊢
  simp (disch := (first | assumption | omega | exact Nat.le_of_ble_eq_true rfl | rfl)) only [w363_1770, w363_1772, w363_1773, Ko_n, Ko_v, vX_i, vX_r, vX_l, vX_j, reduceIte]
  rw [c174, q2]
  by_cases e : kk = 0
  · have q4 := q3 e
    simp (disch := (first | assumption | omega | exact Nat.le_of_ble_eq_true rfl | rfl)) only [w363_1776, w363_1778, w363_1781, w363_1782, w363_1783, w363_1785, w363_1788, w363_1789, w363_1790, w363_1791, w363_1793, w363_1794, w363_1798, w363_1799, w363_1800, Ko_n, Ko_v, vX_i, vX_r, vX_l, vX_j, reduceIte, e, q4, eq_self, not_true, if_true, if_false]
    exact next _ _ _ _ _ _ _ hta htb q1
  · simp (disch := (first | assumption | omega | exact Nat.le_of_ble_eq_true rfl | rfl)) only [w363_1776, w363_1778, w363_1781, w363_1782, w363_1783, w363_1785, w363_1788, w363_1789, w363_1790, w363_1791, w363_1793, w363_1794, w363_1798, w363_1799, w363_1800, Ko_n, Ko_v, vX_i, vX_r, vX_l, vX_j, reduceIte, e, eq_self, not_false_eq_true, if_true, if_false]
    exact next _ _ _ _ _ _ _ hta htb q1
theorem k25_1803 {d n : Nat} {i B : Int} {t1 t2 : Nat} {t3 : Bool} {S : Nat → Int} {σ : St} {Q : vmO → vmH → Prop} {l5 l6 l7 : Value} (hI : Inv B σ) (hB : B < 790000000) (h9 : 999 ≤ B) (i0 : 0 ≤ i) (i6 : i + 6 ≤ n) (nn : (n : Int) ≤ 3072) (hS : ∀ j : Nat, j < n → -2147483648 ≤ S j ∧ S j < 2147483648) (next : ∀ u1 u2 u3 ρ l5 l6 l7, u1 ≤ t1 + 1 → u2 ≤ t2 + 6 → Inv (B + 300000) ρ → Wp (d + 41) M_L_law 3253 [.ref 2000000, .ref 0, .ref 382, .ref 405, .int (i32 i), l5, l6, l7] [] (E (u1, u2, u3, n, S) ρ) Q) : Wp (d + 41) M_L_law 1803 [.ref 2000000, .ref 0, .ref 382, .ref 405, .int (i32 i), l5, l6, l7] [] (E (t1, t2, t3, n, S) σ) Q := by
  have h1 : i + 1 < (n : Int) := by omega
  have h2 : i + 2 < (n : Int) := by omega
  have hn : (n : Int) < 2147483648 := by omega
  have r1 := hS (i + 1).toNat (by omega)
  have r2 := hS (i + 2).toNat (by omega)
  simp (disch := (first | assumption | omega | exact Nat.le_of_ble_eq_true rfl | rfl)) only [w363_1803, w363_1804, w363_1805, w363_1807, w363_1808, w363_1809, w363_1810, w363_1811, w363_1813, w363_1814, w363_1815, w363_1816, w363_1817, Ko_n, Ko_v, vX_i, vX_r, vX_l, vX_j, reduceIte]
  refine l343 hI hB rfl r1.1 r1.2 r2.1 r2.2 fun kk T' τ hm hT => ?_
  obtain ⟨ta, tb, tc, rfl, hta, htb⟩ := tt hT
  have kb := qM_b hm
  simp (disch := (first | assumption | omega | exact Nat.le_of_ble_eq_true rfl | rfl)) only [w363_1820, w363_1822, w363_1823, w363_1824, w363_1826, w363_1827, w363_1828, w363_1829, w363_1830, w363_1832, w363_1833, w363_1834, w363_1835, Ko_n, Ko_v, vX_i, vX_r, vX_l, vX_j, reduceIte]
  refine r275 hI hB rfl r1.1 r1.2 r2.1 r2.2 hm fun b ρ hr => ?_
  obtain ⟨q1, q2, q3⟩ := hr
  have hb1 := Int32.le_toInt (i32 b)
  have hb2 := Int32.toInt_lt (i32 b)
  rw [← i32_toInt (i32 b)]
  generalize (i32 b).toInt = u at hb1 hb2 q3 ⊢
  simp (disch := (first | assumption | omega | exact Nat.le_of_ble_eq_true rfl | rfl)) only [w363_1838, w363_1840, w363_1841, Ko_n, Ko_v, vX_i, vX_r, vX_l, vX_j, reduceIte]
  rw [c174, q2]
  by_cases e : kk = 0
  · have q4 := q3 e
    simp (disch := (first | assumption | omega | exact Nat.le_of_ble_eq_true rfl | rfl)) only [w363_1844, w363_1846, w363_1849, w363_1850, w363_1851, w363_1853, w363_1856, w363_1857, w363_1858, w363_1859, w363_1861, w363_1862, w363_1866, w363_1867, w363_1868, Ko_n, Ko_v, vX_i, vX_r, vX_l, vX_j, reduceIte, e, q4, eq_self, not_true, if_true, if_false]
    exact next _ _ _ _ _ _ _ hta htb q1
  · simp (disch := (first | assumption | omega | exact Nat.le_of_ble_eq_true rfl | rfl)) only [w363_1844, w363_1846, w363_1849, w363_1850, w363_1851, w363_1853, w363_1856, w363_1857, w363_1858, w363_1859, w363_1861, w363_1862, w363_1866, w363_1867, w363_1868, Ko_n, Ko_v, vX_i, vX_r, vX_l, vX_j, reduceIte, e, eq_self, not_false_eq_true, if_true, if_false]
    exact next _ _ _ _ _ _ _ hta htb q1
theorem k27_1979 {d n : Nat} {i B : Int} {t1 t2 : Nat} {t3 : Bool} {S : Nat → Int} {σ : St} {Q : vmO → vmH → Prop} {l5 l6 l7 : Value} (hI : Inv B σ) (hB : B < 790000000) (h9 : 999 ≤ B) (i0 : 0 ≤ i) (i6 : i + 6 ≤ n) (nn : (n : Int) ≤ 3072) (hS : ∀ j : Nat, j < n → -2147483648 ≤ S j ∧ S j < 2147483648) (next : ∀ u1 u2 u3 ρ l5 l6 l7, u1 ≤ t1 + 1 → u2 ≤ t2 + 6 → Inv (B + 300000) ρ → Wp (d + 41) M_L_law 3253 [.ref 2000000, .ref 0, .ref 382, .ref 405, .int (i32 i), l5, l6, l7] [] (E (u1, u2, u3, n, S) ρ) Q) : Wp (d + 41) M_L_law 1979 [.ref 2000000, .ref 0, .ref 382, .ref 405, .int (i32 i), l5, l6, l7] [] (E (t1, t2, t3, n, S) σ) Q := by
  have h1 : i + 1 < (n : Int) := by omega
  have hn : (n : Int) < 2147483648 := by omega
  have r1 := hS (i + 1).toNat (by omega)
  simp (disch := (first | assumption | omega | exact Nat.le_of_ble_eq_true rfl | rfl)) only [w363_1979, w363_1980, w363_1981, w363_1983, w363_1984, w363_1985, w363_1986, w363_1987, Ko_n, Ko_v, vX_i, vX_r, vX_l, vX_j, reduceIte]
  refine l345 hI hB rfl r1.1 r1.2 fun kk T' τ hm hT => ?_
  obtain ⟨ta, tb, tc, rfl, hta, htb⟩ := tt hT
  have kb := qM_b hm
  simp (disch := (first | assumption | omega | exact Nat.le_of_ble_eq_true rfl | rfl)) only [w363_1990, w363_1992, w363_1993, w363_1994, w363_1996, w363_1997, w363_1998, w363_1999, Ko_n, Ko_v, vX_i, vX_r, vX_l, vX_j, reduceIte]
  refine r277 hI hB rfl r1.1 r1.2 hm fun b ρ hr => ?_
  obtain ⟨q1, q2, q3⟩ := hr
  have hb1 := Int32.le_toInt (i32 b)
  have hb2 := Int32.toInt_lt (i32 b)
  rw [← i32_toInt (i32 b)]
  generalize (i32 b).toInt = u at hb1 hb2 q3 ⊢
  simp (disch := (first | assumption | omega | exact Nat.le_of_ble_eq_true rfl | rfl)) only [w363_2002, w363_2004, w363_2005, Ko_n, Ko_v, vX_i, vX_r, vX_l, vX_j, reduceIte]
  rw [c174, q2]
  by_cases e : kk = 0
  · have q4 := q3 e
    simp (disch := (first | assumption | omega | exact Nat.le_of_ble_eq_true rfl | rfl)) only [w363_2008, w363_2010, w363_2013, w363_2014, w363_2015, w363_2017, w363_2020, w363_2021, w363_2022, w363_2023, w363_2025, w363_2026, w363_2030, w363_2031, w363_2032, Ko_n, Ko_v, vX_i, vX_r, vX_l, vX_j, reduceIte, e, q4, eq_self, not_true, if_true, if_false]
    exact next _ _ _ _ _ _ _ hta htb q1
  · simp (disch := (first | assumption | omega | exact Nat.le_of_ble_eq_true rfl | rfl)) only [w363_2008, w363_2010, w363_2013, w363_2014, w363_2015, w363_2017, w363_2020, w363_2021, w363_2022, w363_2023, w363_2025, w363_2026, w363_2030, w363_2031, w363_2032, Ko_n, Ko_v, vX_i, vX_r, vX_l, vX_j, reduceIte, e, eq_self, not_false_eq_true, if_true, if_false]
    exact next _ _ _ _ _ _ _ hta htb q1
theorem k28_2035 {d n : Nat} {i B : Int} {t1 t2 : Nat} {t3 : Bool} {S : Nat → Int} {σ : St} {Q : vmO → vmH → Prop} {l5 l6 l7 : Value} (hI : Inv B σ) (hB : B < 790000000) (h9 : 999 ≤ B) (i0 : 0 ≤ i) (i6 : i + 6 ≤ n) (nn : (n : Int) ≤ 3072) (hS : ∀ j : Nat, j < n → -2147483648 ≤ S j ∧ S j < 2147483648) (next : ∀ u1 u2 u3 ρ l5 l6 l7, u1 ≤ t1 + 1 → u2 ≤ t2 + 6 → Inv (B + 300000) ρ → Wp (d + 41) M_L_law 3253 [.ref 2000000, .ref 0, .ref 382, .ref 405, .int (i32 i), l5, l6, l7] [] (E (u1, u2, u3, n, S) ρ) Q) : Wp (d + 41) M_L_law 2035 [.ref 2000000, .ref 0, .ref 382, .ref 405, .int (i32 i), l5, l6, l7] [] (E (t1, t2, t3, n, S) σ) Q := by
  have h1 : i + 1 < (n : Int) := by omega
  have hn : (n : Int) < 2147483648 := by omega
  have r1 := hS (i + 1).toNat (by omega)
  simp (disch := (first | assumption | omega | exact Nat.le_of_ble_eq_true rfl | rfl)) only [w363_2035, w363_2036, w363_2037, w363_2039, w363_2040, w363_2041, w363_2042, w363_2043, Ko_n, Ko_v, vX_i, vX_r, vX_l, vX_j, reduceIte]
  refine l346 hI hB rfl r1.1 r1.2 fun kk T' τ hm hT => ?_
  obtain ⟨ta, tb, tc, rfl, hta, htb⟩ := tt hT
  have kb := qM_b hm
  simp (disch := (first | assumption | omega | exact Nat.le_of_ble_eq_true rfl | rfl)) only [w363_2046, w363_2048, w363_2049, w363_2050, w363_2052, w363_2053, w363_2054, w363_2055, Ko_n, Ko_v, vX_i, vX_r, vX_l, vX_j, reduceIte]
  refine r278 hI hB rfl r1.1 r1.2 hm fun b ρ hr => ?_
  obtain ⟨q1, q2, q3⟩ := hr
  simp (disch := (first | assumption | omega | exact Nat.le_of_ble_eq_true rfl | rfl)) only [w363_2058, w363_2060, w363_2061, Ko_n, Ko_v, vX_i, vX_r, vX_l, vX_j, reduceIte]
  rw [c174, q2]
  by_cases e : kk = 0
  · have q4 := q3 e
    simp (disch := (first | assumption | omega | exact Nat.le_of_ble_eq_true rfl | rfl)) only [w363_2064, w363_2066, w363_2069, w363_2070, w363_2071, w363_2073, w363_2076, w363_2077, w363_2078, w363_2079, w363_2081, w363_2085, w363_2086, w363_2087, Ko_n, Ko_v, vX_i, vX_r, vX_l, vX_j, reduceIte, e, q4, eq_self, not_true, if_true, if_false]
    exact next _ _ _ _ _ _ _ hta htb q1
  · simp (disch := (first | assumption | omega | exact Nat.le_of_ble_eq_true rfl | rfl)) only [w363_2064, w363_2066, w363_2069, w363_2070, w363_2071, w363_2073, w363_2076, w363_2077, w363_2078, w363_2079, w363_2081, w363_2085, w363_2086, w363_2087, Ko_n, Ko_v, vX_i, vX_r, vX_l, vX_j, reduceIte, e, eq_self, not_false_eq_true, if_true, if_false]
    exact next _ _ _ _ _ _ _ hta htb q1
theorem k29_2090 {d n : Nat} {i B : Int} {t1 t2 : Nat} {t3 : Bool} {S : Nat → Int} {σ : St} {Q : vmO → vmH → Prop} {l5 l6 l7 : Value} (hI : Inv B σ) (hB : B < 790000000) (h9 : 999 ≤ B) (i0 : 0 ≤ i) (i6 : i + 6 ≤ n) (nn : (n : Int) ≤ 3072) (hS : ∀ j : Nat, j < n → -2147483648 ≤ S j ∧ S j < 2147483648) (next : ∀ u1 u2 u3 ρ l5 l6 l7, u1 ≤ t1 + 1 → u2 ≤ t2 + 6 → Inv (B + 300000) ρ → Wp (d + 41) M_L_law 3253 [.ref 2000000, .ref 0, .ref 382, .ref 405, .int (i32 i), l5, l6, l7] [] (E (u1, u2, u3, n, S) ρ) Q) : Wp (d + 41) M_L_law 2090 [.ref 2000000, .ref 0, .ref 382, .ref 405, .int (i32 i), l5, l6, l7] [] (E (t1, t2, t3, n, S) σ) Q := by
  have h1 : i + 1 < (n : Int) := by omega
  have h2 : i + 2 < (n : Int) := by omega
  have hn : (n : Int) < 2147483648 := by omega
  have r1 := hS (i + 1).toNat (by omega)
  have r2 := hS (i + 2).toNat (by omega)
  simp (disch := (first | assumption | omega | exact Nat.le_of_ble_eq_true rfl | rfl)) only [w363_2090, w363_2091, w363_2092, w363_2094, w363_2095, w363_2096, w363_2097, w363_2098, w363_2100, w363_2101, w363_2102, w363_2103, w363_2104, Ko_n, Ko_v, vX_i, vX_r, vX_l, vX_j, reduceIte]
  refine l347 hI hB rfl r1.1 r1.2 r2.1 r2.2 fun kk T' τ hm hT => ?_
  obtain ⟨ta, tb, tc, rfl, hta, htb⟩ := tt hT
  have kb := qM_b hm
  simp (disch := (first | assumption | omega | exact Nat.le_of_ble_eq_true rfl | rfl)) only [w363_2107, w363_2109, w363_2110, w363_2111, w363_2113, w363_2114, w363_2115, w363_2116, w363_2117, w363_2119, w363_2120, w363_2121, w363_2122, Ko_n, Ko_v, vX_i, vX_r, vX_l, vX_j, reduceIte]
  refine r282 hI hB rfl r1.1 r1.2 r2.1 r2.2 hm fun b ρ hr => ?_
  obtain ⟨q1, q2, q3⟩ := hr
  have hb1 := Int32.le_toInt (i32 b)
  have hb2 := Int32.toInt_lt (i32 b)
  rw [← i32_toInt (i32 b)]
  generalize (i32 b).toInt = u at hb1 hb2 q3 ⊢
  simp (disch := (first | assumption | omega | exact Nat.le_of_ble_eq_true rfl | rfl)) only [w363_2125, w363_2127, w363_2128, Ko_n, Ko_v, vX_i, vX_r, vX_l, vX_j, reduceIte]
  rw [c174, q2]
  by_cases e : kk = 0
  · have q4 := q3 e
    simp (disch := (first | assumption | omega | exact Nat.le_of_ble_eq_true rfl | rfl)) only [w363_2131, w363_2133, w363_2136, w363_2137, w363_2138, w363_2140, w363_2143, w363_2144, w363_2145, w363_2146, w363_2148, w363_2149, w363_2153, w363_2154, w363_2155, Ko_n, Ko_v, vX_i, vX_r, vX_l, vX_j, reduceIte, e, q4, eq_self, not_true, if_true, if_false]
    exact next _ _ _ _ _ _ _ hta htb q1
  · simp (disch := (first | assumption | omega | exact Nat.le_of_ble_eq_true rfl | rfl)) only [w363_2131, w363_2133, w363_2136, w363_2137, w363_2138, w363_2140, w363_2143, w363_2144, w363_2145, w363_2146, w363_2148, w363_2149, w363_2153, w363_2154, w363_2155, Ko_n, Ko_v, vX_i, vX_r, vX_l, vX_j, reduceIte, e, eq_self, not_false_eq_true, if_true, if_false]
    exact next _ _ _ _ _ _ _ hta htb q1
theorem k30_2158 {d n : Nat} {i B : Int} {t1 t2 : Nat} {t3 : Bool} {S : Nat → Int} {σ : St} {Q : vmO → vmH → Prop} {l5 l6 l7 : Value} (hI : Inv B σ) (hB : B < 790000000) (h9 : 999 ≤ B) (i0 : 0 ≤ i) (i6 : i + 6 ≤ n) (nn : (n : Int) ≤ 3072) (hS : ∀ j : Nat, j < n → -2147483648 ≤ S j ∧ S j < 2147483648) (next : ∀ u1 u2 u3 ρ l5 l6 l7, u1 ≤ t1 + 1 → u2 ≤ t2 + 6 → Inv (B + 300000) ρ → Wp (d + 41) M_L_law 3253 [.ref 2000000, .ref 0, .ref 382, .ref 405, .int (i32 i), l5, l6, l7] [] (E (u1, u2, u3, n, S) ρ) Q) : Wp (d + 41) M_L_law 2158 [.ref 2000000, .ref 0, .ref 382, .ref 405, .int (i32 i), l5, l6, l7] [] (E (t1, t2, t3, n, S) σ) Q := by
  have h1 : i + 1 < (n : Int) := by omega
  have h2 : i + 2 < (n : Int) := by omega
  have hn : (n : Int) < 2147483648 := by omega
  have r1 := hS (i + 1).toNat (by omega)
  have r2 := hS (i + 2).toNat (by omega)
  simp (disch := (first | assumption | omega | exact Nat.le_of_ble_eq_true rfl | rfl)) only [w363_2158, w363_2159, w363_2160, w363_2162, w363_2163, w363_2164, w363_2165, w363_2166, w363_2168, w363_2169, w363_2170, w363_2171, w363_2172, Ko_n, Ko_v, vX_i, vX_r, vX_l, vX_j, reduceIte]
  refine l348 hI hB rfl r1.1 r1.2 r2.1 r2.2 fun kk T' τ hm hT => ?_
  obtain ⟨ta, tb, tc, rfl, hta, htb⟩ := tt hT
  have kb := qM_b hm
  simp (disch := (first | assumption | omega | exact Nat.le_of_ble_eq_true rfl | rfl)) only [w363_2175, w363_2177, w363_2178, w363_2179, w363_2181, w363_2182, w363_2183, w363_2184, w363_2185, w363_2187, w363_2188, w363_2189, w363_2190, Ko_n, Ko_v, vX_i, vX_r, vX_l, vX_j, reduceIte]
  refine r283 hI hB rfl r1.1 r1.2 r2.1 r2.2 hm fun b ρ hr => ?_
  obtain ⟨q1, q2, q3⟩ := hr
  simp (disch := (first | assumption | omega | exact Nat.le_of_ble_eq_true rfl | rfl)) only [w363_2193, w363_2195, w363_2196, Ko_n, Ko_v, vX_i, vX_r, vX_l, vX_j, reduceIte]
  rw [c174, q2]
  by_cases e : kk = 0
  · have q4 := q3 e
    simp (disch := (first | assumption | omega | exact Nat.le_of_ble_eq_true rfl | rfl)) only [w363_2199, w363_2201, w363_2204, w363_2205, w363_2206, w363_2208, w363_2211, w363_2212, w363_2213, w363_2214, w363_2216, w363_2220, w363_2221, w363_2222, Ko_n, Ko_v, vX_i, vX_r, vX_l, vX_j, reduceIte, e, q4, eq_self, not_true, if_true, if_false]
    exact next _ _ _ _ _ _ _ hta htb q1
  · simp (disch := (first | assumption | omega | exact Nat.le_of_ble_eq_true rfl | rfl)) only [w363_2199, w363_2201, w363_2204, w363_2205, w363_2206, w363_2208, w363_2211, w363_2212, w363_2213, w363_2214, w363_2216, w363_2220, w363_2221, w363_2222, Ko_n, Ko_v, vX_i, vX_r, vX_l, vX_j, reduceIte, e, eq_self, not_false_eq_true, if_true, if_false]
    exact next _ _ _ _ _ _ _ hta htb q1
theorem k31_2225 {d n : Nat} {i B : Int} {t1 t2 : Nat} {t3 : Bool} {S : Nat → Int} {σ : St} {Q : vmO → vmH → Prop} {l5 l6 l7 : Value} (hI : Inv B σ) (hB : B < 790000000) (h9 : 999 ≤ B) (i0 : 0 ≤ i) (i6 : i + 6 ≤ n) (nn : (n : Int) ≤ 3072) (hS : ∀ j : Nat, j < n → -2147483648 ≤ S j ∧ S j < 2147483648) (next : ∀ u1 u2 u3 ρ l5 l6 l7, u1 ≤ t1 + 1 → u2 ≤ t2 + 6 → Inv (B + 300000) ρ → Wp (d + 41) M_L_law 3253 [.ref 2000000, .ref 0, .ref 382, .ref 405, .int (i32 i), l5, l6, l7] [] (E (u1, u2, u3, n, S) ρ) Q) : Wp (d + 41) M_L_law 2225 [.ref 2000000, .ref 0, .ref 382, .ref 405, .int (i32 i), l5, l6, l7] [] (E (t1, t2, t3, n, S) σ) Q := by
  have h1 : i + 1 < (n : Int) := by omega
  have h2 : i + 2 < (n : Int) := by omega
  have hn : (n : Int) < 2147483648 := by omega
  have r1 := hS (i + 1).toNat (by omega)
  have r2 := hS (i + 2).toNat (by omega)
  simp (disch := (first | assumption | omega | exact Nat.le_of_ble_eq_true rfl | rfl)) only [w363_2225, w363_2226, w363_2227, w363_2229, w363_2230, w363_2231, w363_2232, w363_2233, w363_2235, w363_2236, w363_2237, w363_2238, w363_2239, Ko_n, Ko_v, vX_i, vX_r, vX_l, vX_j, reduceIte]
  refine l349 hI hB rfl r1.1 r1.2 r2.1 r2.2 fun kk T' τ hm hT => ?_
  obtain ⟨ta, tb, tc, rfl, hta, htb⟩ := tt hT
  have kb := qM_b hm
  simp (disch := (first | assumption | omega | exact Nat.le_of_ble_eq_true rfl | rfl)) only [w363_2242, w363_2244, w363_2245, w363_2246, w363_2248, w363_2249, w363_2250, w363_2251, w363_2252, w363_2254, w363_2255, w363_2256, w363_2257, Ko_n, Ko_v, vX_i, vX_r, vX_l, vX_j, reduceIte]
  refine r284 hI hB rfl r1.1 r1.2 r2.1 r2.2 hm fun b ρ hr => ?_
  obtain ⟨q1, q2, q3⟩ := hr
  have hb1 := Int32.le_toInt (i32 b)
  have hb2 := Int32.toInt_lt (i32 b)
  rw [← i32_toInt (i32 b)]
  generalize (i32 b).toInt = u at hb1 hb2 q3 ⊢
  simp (disch := (first | assumption | omega | exact Nat.le_of_ble_eq_true rfl | rfl)) only [w363_2260, w363_2262, w363_2263, Ko_n, Ko_v, vX_i, vX_r, vX_l, vX_j, reduceIte]
  rw [c174, q2]
  by_cases e : kk = 0
  · have q4 := q3 e
    simp (disch := (first | assumption | omega | exact Nat.le_of_ble_eq_true rfl | rfl)) only [w363_2266, w363_2268, w363_2271, w363_2272, w363_2273, w363_2275, w363_2278, w363_2279, w363_2280, w363_2281, w363_2283, w363_2284, w363_2288, w363_2289, w363_2290, Ko_n, Ko_v, vX_i, vX_r, vX_l, vX_j, reduceIte, e, q4, eq_self, not_true, if_true, if_false]
    exact next _ _ _ _ _ _ _ hta htb q1
  · simp (disch := (first | assumption | omega | exact Nat.le_of_ble_eq_true rfl | rfl)) only [w363_2266, w363_2268, w363_2271, w363_2272, w363_2273, w363_2275, w363_2278, w363_2279, w363_2280, w363_2281, w363_2283, w363_2284, w363_2288, w363_2289, w363_2290, Ko_n, Ko_v, vX_i, vX_r, vX_l, vX_j, reduceIte, e, eq_self, not_false_eq_true, if_true, if_false]
    exact next _ _ _ _ _ _ _ hta htb q1
theorem k32_2293 {d n : Nat} {i B : Int} {t1 t2 : Nat} {t3 : Bool} {S : Nat → Int} {σ : St} {Q : vmO → vmH → Prop} {l5 l6 l7 : Value} (hI : Inv B σ) (hB : B < 790000000) (h9 : 999 ≤ B) (i0 : 0 ≤ i) (i6 : i + 6 ≤ n) (nn : (n : Int) ≤ 3072) (hS : ∀ j : Nat, j < n → -2147483648 ≤ S j ∧ S j < 2147483648) (next : ∀ u1 u2 u3 ρ l5 l6 l7, u1 ≤ t1 + 1 → u2 ≤ t2 + 6 → Inv (B + 300000) ρ → Wp (d + 41) M_L_law 3253 [.ref 2000000, .ref 0, .ref 382, .ref 405, .int (i32 i), l5, l6, l7] [] (E (u1, u2, u3, n, S) ρ) Q) : Wp (d + 41) M_L_law 2293 [.ref 2000000, .ref 0, .ref 382, .ref 405, .int (i32 i), l5, l6, l7] [] (E (t1, t2, t3, n, S) σ) Q := by
  have h1 : i + 1 < (n : Int) := by omega
  have h2 : i + 2 < (n : Int) := by omega
  have h3 : i + 3 < (n : Int) := by omega
  have hn : (n : Int) < 2147483648 := by omega
  have r1 := hS (i + 1).toNat (by omega)
  have r2 := hS (i + 2).toNat (by omega)
  have r3 := hS (i + 3).toNat (by omega)
  simp (disch := (first | assumption | omega | exact Nat.le_of_ble_eq_true rfl | rfl)) only [w363_2293, w363_2294, w363_2295, w363_2297, w363_2298, w363_2299, w363_2300, w363_2301, w363_2303, w363_2304, w363_2305, w363_2306, w363_2307, w363_2309, w363_2310, w363_2311, w363_2312, w363_2313, Ko_n, Ko_v, vX_i, vX_r, vX_l, vX_j, reduceIte]
  refine l350 hI hB rfl r1.1 r1.2 r2.1 r2.2 r3.1 r3.2 fun kk T' τ hm hT => ?_
  obtain ⟨ta, tb, tc, rfl, hta, htb⟩ := tt hT
  have kb := qM_b hm
  simp (disch := (first | assumption | omega | exact Nat.le_of_ble_eq_true rfl | rfl)) only [w363_2316, w363_2318, w363_2319, w363_2320, w363_2322, w363_2323, w363_2324, w363_2325, w363_2326, w363_2328, w363_2329, w363_2330, w363_2331, w363_2332, w363_2334, w363_2335, w363_2336, w363_2337, Ko_n, Ko_v, vX_i, vX_r, vX_l, vX_j, reduceIte]
  refine r285 hI hB rfl r1.1 r1.2 r2.1 r2.2 r3.1 r3.2 hm fun b ρ hr => ?_
  obtain ⟨q1, q2, q3⟩ := hr
  have hb1 := Int32.le_toInt (i32 b)
  have hb2 := Int32.toInt_lt (i32 b)
  rw [← i32_toInt (i32 b)]
  generalize (i32 b).toInt = u at hb1 hb2 q3 ⊢
  simp (disch := (first | assumption | omega | exact Nat.le_of_ble_eq_true rfl | rfl)) only [w363_2340, w363_2342, w363_2343, Ko_n, Ko_v, vX_i, vX_r, vX_l, vX_j, reduceIte]
  rw [c174, q2]
  by_cases e : kk = 0
  · have q4 := q3 e
    simp (disch := (first | assumption | omega | exact Nat.le_of_ble_eq_true rfl | rfl)) only [w363_2346, w363_2348, w363_2351, w363_2352, w363_2353, w363_2355, w363_2358, w363_2359, w363_2360, w363_2361, w363_2363, w363_2364, w363_2368, w363_2369, w363_2370, Ko_n, Ko_v, vX_i, vX_r, vX_l, vX_j, reduceIte, e, q4, eq_self, not_true, if_true, if_false]
    exact next _ _ _ _ _ _ _ hta htb q1
  · simp (disch := (first | assumption | omega | exact Nat.le_of_ble_eq_true rfl | rfl)) only [w363_2346, w363_2348, w363_2351, w363_2352, w363_2353, w363_2355, w363_2358, w363_2359, w363_2360, w363_2361, w363_2363, w363_2364, w363_2368, w363_2369, w363_2370, Ko_n, Ko_v, vX_i, vX_r, vX_l, vX_j, reduceIte, e, eq_self, not_false_eq_true, if_true, if_false]
    exact next _ _ _ _ _ _ _ hta htb q1
theorem k33_2373 {d n : Nat} {i B : Int} {t1 t2 : Nat} {t3 : Bool} {S : Nat → Int} {σ : St} {Q : vmO → vmH → Prop} {l5 l6 l7 : Value} (hI : Inv B σ) (hB : B < 790000000) (h9 : 999 ≤ B) (i0 : 0 ≤ i) (i6 : i + 6 ≤ n) (nn : (n : Int) ≤ 3072) (hS : ∀ j : Nat, j < n → -2147483648 ≤ S j ∧ S j < 2147483648) (next : ∀ u1 u2 u3 ρ l5 l6 l7, u1 ≤ t1 + 1 → u2 ≤ t2 + 6 → Inv (B + 300000) ρ → Wp (d + 41) M_L_law 3253 [.ref 2000000, .ref 0, .ref 382, .ref 405, .int (i32 i), l5, l6, l7] [] (E (u1, u2, u3, n, S) ρ) Q) : Wp (d + 41) M_L_law 2373 [.ref 2000000, .ref 0, .ref 382, .ref 405, .int (i32 i), l5, l6, l7] [] (E (t1, t2, t3, n, S) σ) Q := by
  have h1 : i + 1 < (n : Int) := by omega
  have h2 : i + 2 < (n : Int) := by omega
  have h3 : i + 3 < (n : Int) := by omega
  have hn : (n : Int) < 2147483648 := by omega
  have r1 := hS (i + 1).toNat (by omega)
  have r2 := hS (i + 2).toNat (by omega)
  have r3 := hS (i + 3).toNat (by omega)
  simp (disch := (first | assumption | omega | exact Nat.le_of_ble_eq_true rfl | rfl)) only [w363_2373, w363_2374, w363_2375, w363_2377, w363_2378, w363_2379, w363_2380, w363_2381, w363_2383, w363_2384, w363_2385, w363_2386, w363_2387, w363_2389, w363_2390, w363_2391, w363_2392, w363_2393, Ko_n, Ko_v, vX_i, vX_r, vX_l, vX_j, reduceIte]
  refine l351 hI hB rfl r1.1 r1.2 r2.1 r2.2 r3.1 r3.2 fun kk T' τ hm hT => ?_
  obtain ⟨ta, tb, tc, rfl, hta, htb⟩ := tt hT
  have kb := qM_b hm
  simp (disch := (first | assumption | omega | exact Nat.le_of_ble_eq_true rfl | rfl)) only [w363_2396, w363_2398, w363_2399, w363_2400, w363_2402, w363_2403, w363_2404, w363_2405, w363_2406, w363_2408, w363_2409, w363_2410, w363_2411, w363_2412, w363_2414, w363_2415, w363_2416, w363_2417, Ko_n, Ko_v, vX_i, vX_r, vX_l, vX_j, reduceIte]
  refine r286 hI hB rfl r1.1 r1.2 r2.1 r2.2 r3.1 r3.2 hm fun b ρ hr => ?_
  obtain ⟨q1, q2, q3⟩ := hr
  have hb1 := Int32.le_toInt (i32 b)
  have hb2 := Int32.toInt_lt (i32 b)
  rw [← i32_toInt (i32 b)]
  generalize (i32 b).toInt = u at hb1 hb2 q3 ⊢
  simp (disch := (first | assumption | omega | exact Nat.le_of_ble_eq_true rfl | rfl)) only [w363_2420, w363_2422, w363_2423, Ko_n, Ko_v, vX_i, vX_r, vX_l, vX_j, reduceIte]
  rw [c174, q2]
  by_cases e : kk = 0
  · have q4 := q3 e
    simp (disch := (first | assumption | omega | exact Nat.le_of_ble_eq_true rfl | rfl)) only [w363_2426, w363_2428, w363_2431, w363_2432, w363_2433, w363_2435, w363_2438, w363_2439, w363_2440, w363_2441, w363_2443, w363_2444, w363_2448, w363_2449, w363_2450, Ko_n, Ko_v, vX_i, vX_r, vX_l, vX_j, reduceIte, e, q4, eq_self, not_true, if_true, if_false]
    exact next _ _ _ _ _ _ _ hta htb q1
  · simp (disch := (first | assumption | omega | exact Nat.le_of_ble_eq_true rfl | rfl)) only [w363_2426, w363_2428, w363_2431, w363_2432, w363_2433, w363_2435, w363_2438, w363_2439, w363_2440, w363_2441, w363_2443, w363_2444, w363_2448, w363_2449, w363_2450, Ko_n, Ko_v, vX_i, vX_r, vX_l, vX_j, reduceIte, e, eq_self, not_false_eq_true, if_true, if_false]
    exact next _ _ _ _ _ _ _ hta htb q1
theorem k34_2453 {d n : Nat} {i B : Int} {t1 t2 : Nat} {t3 : Bool} {S : Nat → Int} {σ : St} {Q : vmO → vmH → Prop} {l5 l6 l7 : Value} (hI : Inv B σ) (hB : B < 790000000) (h9 : 999 ≤ B) (i0 : 0 ≤ i) (i6 : i + 6 ≤ n) (nn : (n : Int) ≤ 3072) (hS : ∀ j : Nat, j < n → -2147483648 ≤ S j ∧ S j < 2147483648) (next : ∀ u1 u2 u3 ρ l5 l6 l7, u1 ≤ t1 + 1 → u2 ≤ t2 + 6 → Inv (B + 300000) ρ → Wp (d + 41) M_L_law 3253 [.ref 2000000, .ref 0, .ref 382, .ref 405, .int (i32 i), l5, l6, l7] [] (E (u1, u2, u3, n, S) ρ) Q) : Wp (d + 41) M_L_law 2453 [.ref 2000000, .ref 0, .ref 382, .ref 405, .int (i32 i), l5, l6, l7] [] (E (t1, t2, t3, n, S) σ) Q := by
  have h1 : i + 1 < (n : Int) := by omega
  have h2 : i + 2 < (n : Int) := by omega
  have h3 : i + 3 < (n : Int) := by omega
  have hn : (n : Int) < 2147483648 := by omega
  have r1 := hS (i + 1).toNat (by omega)
  have r2 := hS (i + 2).toNat (by omega)
  have r3 := hS (i + 3).toNat (by omega)
  simp (disch := (first | assumption | omega | exact Nat.le_of_ble_eq_true rfl | rfl)) only [w363_2453, w363_2454, w363_2455, w363_2457, w363_2458, w363_2459, w363_2460, w363_2461, w363_2463, w363_2464, w363_2465, w363_2466, w363_2467, w363_2469, w363_2470, w363_2471, w363_2472, w363_2473, Ko_n, Ko_v, vX_i, vX_r, vX_l, vX_j, reduceIte]
  refine l352 hI hB rfl r1.1 r1.2 r2.1 r2.2 r3.1 r3.2 fun kk T' τ hm hT => ?_
  obtain ⟨ta, tb, tc, rfl, hta, htb⟩ := tt hT
  have kb := qM_b hm
  simp (disch := (first | assumption | omega | exact Nat.le_of_ble_eq_true rfl | rfl)) only [w363_2476, w363_2478, w363_2479, w363_2480, w363_2482, w363_2483, w363_2484, w363_2485, w363_2486, w363_2488, w363_2489, w363_2490, w363_2491, w363_2492, w363_2494, w363_2495, w363_2496, w363_2497, Ko_n, Ko_v, vX_i, vX_r, vX_l, vX_j, reduceIte]
  refine r287 hI hB rfl r1.1 r1.2 r2.1 r2.2 r3.1 r3.2 hm fun b ρ hr => ?_
  obtain ⟨q1, q2, q3⟩ := hr
  have hb1 := Int32.le_toInt (i32 b)
  have hb2 := Int32.toInt_lt (i32 b)
  rw [← i32_toInt (i32 b)]
  generalize (i32 b).toInt = u at hb1 hb2 q3 ⊢
  simp (disch := (first | assumption | omega | exact Nat.le_of_ble_eq_true rfl | rfl)) only [w363_2500, w363_2502, w363_2503, Ko_n, Ko_v, vX_i, vX_r, vX_l, vX_j, reduceIte]
  rw [c174, q2]
  by_cases e : kk = 0
  · have q4 := q3 e
    simp (disch := (first | assumption | omega | exact Nat.le_of_ble_eq_true rfl | rfl)) only [w363_2506, w363_2508, w363_2511, w363_2512, w363_2513, w363_2515, w363_2518, w363_2519, w363_2520, w363_2521, w363_2523, w363_2524, w363_2528, w363_2529, w363_2530, Ko_n, Ko_v, vX_i, vX_r, vX_l, vX_j, reduceIte, e, q4, eq_self, not_true, if_true, if_false]
    exact next _ _ _ _ _ _ _ hta htb q1
  · simp (disch := (first | assumption | omega | exact Nat.le_of_ble_eq_true rfl | rfl)) only [w363_2506, w363_2508, w363_2511, w363_2512, w363_2513, w363_2515, w363_2518, w363_2519, w363_2520, w363_2521, w363_2523, w363_2524, w363_2528, w363_2529, w363_2530, Ko_n, Ko_v, vX_i, vX_r, vX_l, vX_j, reduceIte, e, eq_self, not_false_eq_true, if_true, if_false]
    exact next _ _ _ _ _ _ _ hta htb q1
