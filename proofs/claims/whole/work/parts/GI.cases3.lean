/-! ===== the law's cases (by program), 3 ===== -/
theorem k35_2533 {d n : Nat} {i B : Int} {t1 t2 : Nat} {t3 : Bool} {S : Nat → Int} {σ : St} {Q : vmO → vmH → Prop} {l5 l6 l7 : Value} (hI : Inv B σ) (hB : B < 790000000) (h9 : 999 ≤ B) (i0 : 0 ≤ i) (i6 : i + 6 ≤ n) (nn : (n : Int) ≤ 3072) (hS : ∀ j : Nat, j < n → -2147483648 ≤ S j ∧ S j < 2147483648) (next : ∀ u1 u2 u3 ρ l5 l6 l7, u1 ≤ t1 + 1 → u2 ≤ t2 + 6 → Inv (B + 300000) ρ → Wp (d + 41) M_L_law 3253 [.ref 2000000, .ref 0, .ref 382, .ref 405, .int (i32 i), l5, l6, l7] [] (E (u1, u2, u3, n, S) ρ) Q) : Wp (d + 41) M_L_law 2533 [.ref 2000000, .ref 0, .ref 382, .ref 405, .int (i32 i), l5, l6, l7] [] (E (t1, t2, t3, n, S) σ) Q := by
  have h1 : i + 1 < (n : Int) := by omega
  have h2 : i + 2 < (n : Int) := by omega
  have h3 : i + 3 < (n : Int) := by omega
  have hn : (n : Int) < 2147483648 := by omega
  have r1 := hS (i + 1).toNat (by omega)
  have r2 := hS (i + 2).toNat (by omega)
  have r3 := hS (i + 3).toNat (by omega)
  simp (disch := (first | assumption | omega | exact Nat.le_of_ble_eq_true rfl | rfl)) only [w363_2533, w363_2534, w363_2535, w363_2537, w363_2538, w363_2539, w363_2540, w363_2541, w363_2543, w363_2544, w363_2545, w363_2546, w363_2547, w363_2549, w363_2550, w363_2551, w363_2552, w363_2553, Ko_n, Ko_v, vX_i, vX_r, vX_l, vX_j, reduceIte]
  refine l353 hI hB rfl r1.1 r1.2 r2.1 r2.2 r3.1 r3.2 fun kk T' τ hm hT => ?_
  obtain ⟨ta, tb, tc, rfl, hta, htb⟩ := tt hT
  have kb := qM_b hm
  simp (disch := (first | assumption | omega | exact Nat.le_of_ble_eq_true rfl | rfl)) only [w363_2556, w363_2558, w363_2559, w363_2560, w363_2562, w363_2563, w363_2564, w363_2565, w363_2566, w363_2568, w363_2569, w363_2570, w363_2571, w363_2572, w363_2574, w363_2575, w363_2576, w363_2577, Ko_n, Ko_v, vX_i, vX_r, vX_l, vX_j, reduceIte]
  refine r292 hI hB rfl r1.1 r1.2 r2.1 r2.2 r3.1 r3.2 hm fun b ρ hr => ?_
  obtain ⟨q1, q2, q3⟩ := hr
  simp (disch := (first | assumption | omega | exact Nat.le_of_ble_eq_true rfl | rfl)) only [w363_2580, w363_2582, w363_2583, Ko_n, Ko_v, vX_i, vX_r, vX_l, vX_j, reduceIte]
  rw [c174, q2]
  by_cases e : kk = 0
  · have q4 := q3 e
    simp (disch := (first | assumption | omega | exact Nat.le_of_ble_eq_true rfl | rfl)) only [w363_2586, w363_2588, w363_2591, w363_2592, w363_2593, w363_2595, w363_2598, w363_2599, w363_2600, w363_2601, w363_2603, w363_2607, w363_2608, w363_2609, Ko_n, Ko_v, vX_i, vX_r, vX_l, vX_j, reduceIte, e, q4, eq_self, not_true, if_true, if_false]
    exact next _ _ _ _ _ _ _ hta htb q1
  · simp (disch := (first | assumption | omega | exact Nat.le_of_ble_eq_true rfl | rfl)) only [w363_2586, w363_2588, w363_2591, w363_2592, w363_2593, w363_2595, w363_2598, w363_2599, w363_2600, w363_2601, w363_2603, w363_2607, w363_2608, w363_2609, Ko_n, Ko_v, vX_i, vX_r, vX_l, vX_j, reduceIte, e, eq_self, not_false_eq_true, if_true, if_false]
    exact next _ _ _ _ _ _ _ hta htb q1
theorem k36_2612 {d n : Nat} {i B : Int} {t1 t2 : Nat} {t3 : Bool} {S : Nat → Int} {σ : St} {Q : vmO → vmH → Prop} {l5 l6 l7 : Value} (hI : Inv B σ) (hB : B < 790000000) (h9 : 999 ≤ B) (i0 : 0 ≤ i) (i6 : i + 6 ≤ n) (nn : (n : Int) ≤ 3072) (hS : ∀ j : Nat, j < n → -2147483648 ≤ S j ∧ S j < 2147483648) (next : ∀ u1 u2 u3 ρ l5 l6 l7, u1 ≤ t1 + 1 → u2 ≤ t2 + 6 → Inv (B + 300000) ρ → Wp (d + 41) M_L_law 3253 [.ref 2000000, .ref 0, .ref 382, .ref 405, .int (i32 i), l5, l6, l7] [] (E (u1, u2, u3, n, S) ρ) Q) : Wp (d + 41) M_L_law 2612 [.ref 2000000, .ref 0, .ref 382, .ref 405, .int (i32 i), l5, l6, l7] [] (E (t1, t2, t3, n, S) σ) Q := by
  have h1 : i + 1 < (n : Int) := by omega
  have h2 : i + 2 < (n : Int) := by omega
  have h3 : i + 3 < (n : Int) := by omega
  have hn : (n : Int) < 2147483648 := by omega
  have r1 := hS (i + 1).toNat (by omega)
  have r2 := hS (i + 2).toNat (by omega)
  have r3 := hS (i + 3).toNat (by omega)
  simp (disch := (first | assumption | omega | exact Nat.le_of_ble_eq_true rfl | rfl)) only [w363_2612, w363_2613, w363_2614, w363_2616, w363_2617, w363_2618, w363_2619, w363_2620, w363_2622, w363_2623, w363_2624, w363_2625, w363_2626, w363_2628, w363_2629, w363_2630, w363_2631, w363_2632, Ko_n, Ko_v, vX_i, vX_r, vX_l, vX_j, reduceIte]
  refine l354 hI hB rfl r1.1 r1.2 r2.1 r2.2 r3.1 r3.2 fun kk T' τ hm hT => ?_
  obtain ⟨ta, tb, tc, rfl, hta, htb⟩ := tt hT
  have kb := qM_b hm
  simp (disch := (first | assumption | omega | exact Nat.le_of_ble_eq_true rfl | rfl)) only [w363_2635, w363_2637, w363_2638, w363_2639, w363_2641, w363_2642, w363_2643, w363_2644, w363_2645, w363_2647, w363_2648, w363_2649, w363_2650, w363_2651, w363_2653, w363_2654, w363_2655, w363_2656, Ko_n, Ko_v, vX_i, vX_r, vX_l, vX_j, reduceIte]
  refine r293 hI hB rfl r1.1 r1.2 r2.1 r2.2 r3.1 r3.2 hm fun b ρ hr => ?_
  obtain ⟨q1, q2, q3⟩ := hr
  simp (disch := (first | assumption | omega | exact Nat.le_of_ble_eq_true rfl | rfl)) only [w363_2659, w363_2661, w363_2662, Ko_n, Ko_v, vX_i, vX_r, vX_l, vX_j, reduceIte]
  rw [c174, q2]
  by_cases e : kk = 0
  · have q4 := q3 e
    simp (disch := (first | assumption | omega | exact Nat.le_of_ble_eq_true rfl | rfl)) only [w363_2665, w363_2667, w363_2670, w363_2671, w363_2672, w363_2674, w363_2677, w363_2678, w363_2679, w363_2680, w363_2682, w363_2686, w363_2687, w363_2688, Ko_n, Ko_v, vX_i, vX_r, vX_l, vX_j, reduceIte, e, q4, eq_self, not_true, if_true, if_false]
    exact next _ _ _ _ _ _ _ hta htb q1
  · simp (disch := (first | assumption | omega | exact Nat.le_of_ble_eq_true rfl | rfl)) only [w363_2665, w363_2667, w363_2670, w363_2671, w363_2672, w363_2674, w363_2677, w363_2678, w363_2679, w363_2680, w363_2682, w363_2686, w363_2687, w363_2688, Ko_n, Ko_v, vX_i, vX_r, vX_l, vX_j, reduceIte, e, eq_self, not_false_eq_true, if_true, if_false]
    exact next _ _ _ _ _ _ _ hta htb q1
theorem k37_2691 {d n : Nat} {i B : Int} {t1 t2 : Nat} {t3 : Bool} {S : Nat → Int} {σ : St} {Q : vmO → vmH → Prop} {l5 l6 l7 : Value} (hI : Inv B σ) (hB : B < 790000000) (h9 : 999 ≤ B) (i0 : 0 ≤ i) (i6 : i + 6 ≤ n) (nn : (n : Int) ≤ 3072) (hS : ∀ j : Nat, j < n → -2147483648 ≤ S j ∧ S j < 2147483648) (next : ∀ u1 u2 u3 ρ l5 l6 l7, u1 ≤ t1 + 1 → u2 ≤ t2 + 6 → Inv (B + 300000) ρ → Wp (d + 41) M_L_law 3253 [.ref 2000000, .ref 0, .ref 382, .ref 405, .int (i32 i), l5, l6, l7] [] (E (u1, u2, u3, n, S) ρ) Q) : Wp (d + 41) M_L_law 2691 [.ref 2000000, .ref 0, .ref 382, .ref 405, .int (i32 i), l5, l6, l7] [] (E (t1, t2, t3, n, S) σ) Q := by
  have h1 : i + 1 < (n : Int) := by omega
  have h2 : i + 2 < (n : Int) := by omega
  have h3 : i + 3 < (n : Int) := by omega
  have h4 : i + 4 < (n : Int) := by omega
  have hn : (n : Int) < 2147483648 := by omega
  have r1 := hS (i + 1).toNat (by omega)
  have r2 := hS (i + 2).toNat (by omega)
  have r3 := hS (i + 3).toNat (by omega)
  have r4 := hS (i + 4).toNat (by omega)
  simp (disch := (first | assumption | omega | exact Nat.le_of_ble_eq_true rfl | rfl)) only [w363_2691, w363_2692, w363_2693, w363_2695, w363_2696, w363_2697, w363_2698, w363_2699, w363_2701, w363_2702, w363_2703, w363_2704, w363_2705, w363_2707, w363_2708, w363_2709, w363_2710, w363_2711, w363_2713, w363_2714, w363_2715, w363_2716, w363_2717, Ko_n, Ko_v, vX_i, vX_r, vX_l, vX_j, reduceIte]
  refine l355 hI hB rfl r1.1 r1.2 r2.1 r2.2 r3.1 r3.2 r4.1 r4.2 fun kk T' τ hm hT => ?_
  obtain ⟨ta, tb, tc, rfl, hta, htb⟩ := tt hT
  have kb := qM_b hm
  simp (disch := (first | assumption | omega | exact Nat.le_of_ble_eq_true rfl | rfl)) only [w363_2720, w363_2722, w363_2723, w363_2724, w363_2726, w363_2727, w363_2728, w363_2729, w363_2730, w363_2732, w363_2733, w363_2734, w363_2735, w363_2736, w363_2738, w363_2739, w363_2740, w363_2741, w363_2742, w363_2744, w363_2745, w363_2746, w363_2747, Ko_n, Ko_v, vX_i, vX_r, vX_l, vX_j, reduceIte]
  refine r295 hI hB rfl r1.1 r1.2 r2.1 r2.2 r3.1 r3.2 r4.1 r4.2 hm fun b ρ hr => ?_
  obtain ⟨q1, q2, q3⟩ := hr
  simp (disch := (first | assumption | omega | exact Nat.le_of_ble_eq_true rfl | rfl)) only [w363_2750, w363_2752, w363_2753, Ko_n, Ko_v, vX_i, vX_r, vX_l, vX_j, reduceIte]
  rw [c174, q2]
  by_cases e : kk = 0
  · have q4 := q3 e
    simp (disch := (first | assumption | omega | exact Nat.le_of_ble_eq_true rfl | rfl)) only [w363_2756, w363_2758, w363_2761, w363_2762, w363_2763, w363_2765, w363_2768, w363_2769, w363_2770, w363_2771, w363_2773, w363_2777, w363_2778, w363_2779, Ko_n, Ko_v, vX_i, vX_r, vX_l, vX_j, reduceIte, e, q4, eq_self, not_true, if_true, if_false]
    exact next _ _ _ _ _ _ _ hta htb q1
  · simp (disch := (first | assumption | omega | exact Nat.le_of_ble_eq_true rfl | rfl)) only [w363_2756, w363_2758, w363_2761, w363_2762, w363_2763, w363_2765, w363_2768, w363_2769, w363_2770, w363_2771, w363_2773, w363_2777, w363_2778, w363_2779, Ko_n, Ko_v, vX_i, vX_r, vX_l, vX_j, reduceIte, e, eq_self, not_false_eq_true, if_true, if_false]
    exact next _ _ _ _ _ _ _ hta htb q1
theorem k38_2782 {d n : Nat} {i B : Int} {t1 t2 : Nat} {t3 : Bool} {S : Nat → Int} {σ : St} {Q : vmO → vmH → Prop} {l5 l6 l7 : Value} (hI : Inv B σ) (hB : B < 790000000) (h9 : 999 ≤ B) (i0 : 0 ≤ i) (i6 : i + 6 ≤ n) (nn : (n : Int) ≤ 3072) (hS : ∀ j : Nat, j < n → -2147483648 ≤ S j ∧ S j < 2147483648) (next : ∀ u1 u2 u3 ρ l5 l6 l7, u1 ≤ t1 + 1 → u2 ≤ t2 + 6 → Inv (B + 300000) ρ → Wp (d + 41) M_L_law 3253 [.ref 2000000, .ref 0, .ref 382, .ref 405, .int (i32 i), l5, l6, l7] [] (E (u1, u2, u3, n, S) ρ) Q) : Wp (d + 41) M_L_law 2782 [.ref 2000000, .ref 0, .ref 382, .ref 405, .int (i32 i), l5, l6, l7] [] (E (t1, t2, t3, n, S) σ) Q := by
  have h1 : i + 1 < (n : Int) := by omega
  have h2 : i + 2 < (n : Int) := by omega
  have h3 : i + 3 < (n : Int) := by omega
  have hn : (n : Int) < 2147483648 := by omega
  have r1 := hS (i + 1).toNat (by omega)
  have r2 := hS (i + 2).toNat (by omega)
  have r3 := hS (i + 3).toNat (by omega)
  simp (disch := (first | assumption | omega | exact Nat.le_of_ble_eq_true rfl | rfl)) only [w363_2782, w363_2783, w363_2784, w363_2786, w363_2787, w363_2788, w363_2789, w363_2790, w363_2792, w363_2793, w363_2794, w363_2795, w363_2796, w363_2798, w363_2799, w363_2800, w363_2801, w363_2802, Ko_n, Ko_v, vX_i, vX_r, vX_l, vX_j, reduceIte]
  refine l356 hI hB rfl r1.1 r1.2 r2.1 r2.2 r3.1 r3.2 fun kk T' τ hm hT => ?_
  obtain ⟨ta, tb, tc, rfl, hta, htb⟩ := tt hT
  have kb := qM_b hm
  simp (disch := (first | assumption | omega | exact Nat.le_of_ble_eq_true rfl | rfl)) only [w363_2805, w363_2807, w363_2808, w363_2809, w363_2811, w363_2812, w363_2813, w363_2814, w363_2815, w363_2817, w363_2818, w363_2819, w363_2820, w363_2821, w363_2823, w363_2824, w363_2825, w363_2826, Ko_n, Ko_v, vX_i, vX_r, vX_l, vX_j, reduceIte]
  refine r296 hI hB rfl r1.1 r1.2 r2.1 r2.2 r3.1 r3.2 hm fun b ρ hr => ?_
  obtain ⟨q1, q2, q3⟩ := hr
  have hb1 := Int32.le_toInt (i32 b)
  have hb2 := Int32.toInt_lt (i32 b)
  rw [← i32_toInt (i32 b)]
  generalize (i32 b).toInt = u at hb1 hb2 q3 ⊢
  simp (disch := (first | assumption | omega | exact Nat.le_of_ble_eq_true rfl | rfl)) only [w363_2829, w363_2831, w363_2832, Ko_n, Ko_v, vX_i, vX_r, vX_l, vX_j, reduceIte]
  rw [c174, q2]
  by_cases e : kk = 0
  · have q4 := q3 e
    simp (disch := (first | assumption | omega | exact Nat.le_of_ble_eq_true rfl | rfl)) only [w363_2835, w363_2837, w363_2840, w363_2841, w363_2842, w363_2844, w363_2847, w363_2848, w363_2849, w363_2850, w363_2852, w363_2853, w363_2857, w363_2858, w363_2859, Ko_n, Ko_v, vX_i, vX_r, vX_l, vX_j, reduceIte, e, q4, eq_self, not_true, if_true, if_false]
    exact next _ _ _ _ _ _ _ hta htb q1
  · simp (disch := (first | assumption | omega | exact Nat.le_of_ble_eq_true rfl | rfl)) only [w363_2835, w363_2837, w363_2840, w363_2841, w363_2842, w363_2844, w363_2847, w363_2848, w363_2849, w363_2850, w363_2852, w363_2853, w363_2857, w363_2858, w363_2859, Ko_n, Ko_v, vX_i, vX_r, vX_l, vX_j, reduceIte, e, eq_self, not_false_eq_true, if_true, if_false]
    exact next _ _ _ _ _ _ _ hta htb q1
theorem k39_2862 {d n : Nat} {i B : Int} {t1 t2 : Nat} {t3 : Bool} {S : Nat → Int} {σ : St} {Q : vmO → vmH → Prop} {l5 l6 l7 : Value} (hI : Inv B σ) (hB : B < 790000000) (h9 : 999 ≤ B) (i0 : 0 ≤ i) (i6 : i + 6 ≤ n) (nn : (n : Int) ≤ 3072) (hS : ∀ j : Nat, j < n → -2147483648 ≤ S j ∧ S j < 2147483648) (next : ∀ u1 u2 u3 ρ l5 l6 l7, u1 ≤ t1 + 1 → u2 ≤ t2 + 6 → Inv (B + 300000) ρ → Wp (d + 41) M_L_law 3253 [.ref 2000000, .ref 0, .ref 382, .ref 405, .int (i32 i), l5, l6, l7] [] (E (u1, u2, u3, n, S) ρ) Q) : Wp (d + 41) M_L_law 2862 [.ref 2000000, .ref 0, .ref 382, .ref 405, .int (i32 i), l5, l6, l7] [] (E (t1, t2, t3, n, S) σ) Q := by
  have h1 : i + 1 < (n : Int) := by omega
  have h2 : i + 2 < (n : Int) := by omega
  have hn : (n : Int) < 2147483648 := by omega
  have r1 := hS (i + 1).toNat (by omega)
  have r2 := hS (i + 2).toNat (by omega)
  simp (disch := (first | assumption | omega | exact Nat.le_of_ble_eq_true rfl | rfl)) only [w363_2862, w363_2863, w363_2864, w363_2866, w363_2867, w363_2868, w363_2869, w363_2870, w363_2872, w363_2873, w363_2874, w363_2875, w363_2876, Ko_n, Ko_v, vX_i, vX_r, vX_l, vX_j, reduceIte]
  refine l357 hI hB rfl r1.1 r1.2 r2.1 r2.2 fun kk T' τ hm hT => ?_
  obtain ⟨ta, tb, tc, rfl, hta, htb⟩ := tt hT
  have kb := qM_b hm
  simp (disch := (first | assumption | omega | exact Nat.le_of_ble_eq_true rfl | rfl)) only [w363_2879, w363_2881, w363_2882, w363_2883, w363_2885, w363_2886, w363_2887, w363_2888, w363_2889, w363_2891, w363_2892, w363_2893, w363_2894, Ko_n, Ko_v, vX_i, vX_r, vX_l, vX_j, reduceIte]
  refine r297 hI hB rfl r1.1 r1.2 r2.1 r2.2 hm fun b ρ hr => ?_
  obtain ⟨q1, q2, q3⟩ := hr
  simp (disch := (first | assumption | omega | exact Nat.le_of_ble_eq_true rfl | rfl)) only [w363_2897, w363_2899, w363_2900, Ko_n, Ko_v, vX_i, vX_r, vX_l, vX_j, reduceIte]
  rw [c174, q2]
  by_cases e : kk = 0
  · have q4 := q3 e
    simp (disch := (first | assumption | omega | exact Nat.le_of_ble_eq_true rfl | rfl)) only [w363_2903, w363_2905, w363_2908, w363_2909, w363_2910, w363_2912, w363_2915, w363_2916, w363_2917, w363_2918, w363_2920, w363_2924, w363_2925, w363_2926, Ko_n, Ko_v, vX_i, vX_r, vX_l, vX_j, reduceIte, e, q4, eq_self, not_true, if_true, if_false]
    exact next _ _ _ _ _ _ _ hta htb q1
  · simp (disch := (first | assumption | omega | exact Nat.le_of_ble_eq_true rfl | rfl)) only [w363_2903, w363_2905, w363_2908, w363_2909, w363_2910, w363_2912, w363_2915, w363_2916, w363_2917, w363_2918, w363_2920, w363_2924, w363_2925, w363_2926, Ko_n, Ko_v, vX_i, vX_r, vX_l, vX_j, reduceIte, e, eq_self, not_false_eq_true, if_true, if_false]
    exact next _ _ _ _ _ _ _ hta htb q1
theorem k40_2929 {d n : Nat} {i B : Int} {t1 t2 : Nat} {t3 : Bool} {S : Nat → Int} {σ : St} {Q : vmO → vmH → Prop} {l5 l6 l7 : Value} (hI : Inv B σ) (hB : B < 790000000) (h9 : 999 ≤ B) (i0 : 0 ≤ i) (i6 : i + 6 ≤ n) (nn : (n : Int) ≤ 3072) (hS : ∀ j : Nat, j < n → -2147483648 ≤ S j ∧ S j < 2147483648) (next : ∀ u1 u2 u3 ρ l5 l6 l7, u1 ≤ t1 + 1 → u2 ≤ t2 + 6 → Inv (B + 300000) ρ → Wp (d + 41) M_L_law 3253 [.ref 2000000, .ref 0, .ref 382, .ref 405, .int (i32 i), l5, l6, l7] [] (E (u1, u2, u3, n, S) ρ) Q) : Wp (d + 41) M_L_law 2929 [.ref 2000000, .ref 0, .ref 382, .ref 405, .int (i32 i), l5, l6, l7] [] (E (t1, t2, t3, n, S) σ) Q := by
  have h1 : i + 1 < (n : Int) := by omega
  have h2 : i + 2 < (n : Int) := by omega
  have h3 : i + 3 < (n : Int) := by omega
  have hn : (n : Int) < 2147483648 := by omega
  have r1 := hS (i + 1).toNat (by omega)
  have r2 := hS (i + 2).toNat (by omega)
  have r3 := hS (i + 3).toNat (by omega)
  simp (disch := (first | assumption | omega | exact Nat.le_of_ble_eq_true rfl | rfl)) only [w363_2929, w363_2930, w363_2931, w363_2933, w363_2934, w363_2935, w363_2936, w363_2937, w363_2939, w363_2940, w363_2941, w363_2942, w363_2943, w363_2945, w363_2946, w363_2947, w363_2948, Ko_n, Ko_v, vX_i, vX_r, vX_l, vX_j, reduceIte]
  refine l358  r1.1 r1.2 r2.1 r2.2 r3.1 r3.2 fun kk T' τ hm hT => ?_
  obtain ⟨ta, tb, tc, rfl, hta, htb⟩ := tt hT
  have kb := tyM_b hm
  simp (disch := (first | assumption | omega | exact Nat.le_of_ble_eq_true rfl | rfl)) only [w363_2951, w363_2953, w363_2954, w363_2955, w363_2957, w363_2958, w363_2959, w363_2960, w363_2961, w363_2963, w363_2964, w363_2965, w363_2966, w363_2967, w363_2969, w363_2970, w363_2971, w363_2972, Ko_n, Ko_v, vX_i, vX_r, vX_l, vX_j, reduceIte]
  refine r299 hI r1.1 r1.2 r2.1 r2.2 r3.1 r3.2 hm fun ρ q1 q2 => ?_
  simp (disch := (first | assumption | omega | exact Nat.le_of_ble_eq_true rfl | rfl)) only [w363_2975, w363_2976, Ko_n, Ko_v, vX_i, vX_r, vX_l, vX_j, reduceIte]
  rw [c174, q2]
  simp (disch := (first | assumption | omega | exact Nat.le_of_ble_eq_true rfl | rfl)) only [w363_2979, w363_2981, w363_2984, w363_2985, w363_2986, Ko_n, Ko_v, vX_i, vX_r, vX_l, vX_j, reduceIte, eq_self, if_true]
  exact next _ _ _ _ _ _ _ hta htb (Inv_le q1 (by omega))
theorem k42_3100 {d n : Nat} {i B : Int} {t1 t2 : Nat} {t3 : Bool} {S : Nat → Int} {σ : St} {Q : vmO → vmH → Prop} {l5 l6 l7 : Value} (hI : Inv B σ) (hB : B < 790000000) (h9 : 999 ≤ B) (i0 : 0 ≤ i) (i6 : i + 6 ≤ n) (nn : (n : Int) ≤ 3072) (hS : ∀ j : Nat, j < n → -2147483648 ≤ S j ∧ S j < 2147483648) (next : ∀ u1 u2 u3 ρ l5 l6 l7, u1 ≤ t1 + 1 → u2 ≤ t2 + 6 → Inv (B + 300000) ρ → Wp (d + 41) M_L_law 3253 [.ref 2000000, .ref 0, .ref 382, .ref 405, .int (i32 i), l5, l6, l7] [] (E (u1, u2, u3, n, S) ρ) Q) : Wp (d + 41) M_L_law 3100 [.ref 2000000, .ref 0, .ref 382, .ref 405, .int (i32 i), l5, l6, l7] [] (E (t1, t2, t3, n, S) σ) Q := by
  have h1 : i + 1 < (n : Int) := by omega
  have hn : (n : Int) < 2147483648 := by omega
  have r1 := hS (i + 1).toNat (by omega)
  simp (disch := (first | assumption | omega | exact Nat.le_of_ble_eq_true rfl | rfl)) only [w363_3100, w363_3101, w363_3102, w363_3104, w363_3105, w363_3106, w363_3107, w363_3108, Ko_n, Ko_v, vX_i, vX_r, vX_l, vX_j, reduceIte]
  refine l360 hI hB rfl r1.1 r1.2 fun kk T' τ hm hT => ?_
  obtain ⟨ta, tb, tc, rfl, hta, htb⟩ := tt hT
  have kb := cyM_b hm
  simp (disch := (first | assumption | omega | exact Nat.le_of_ble_eq_true rfl | rfl)) only [w363_3111, w363_3113, w363_3114, w363_3115, w363_3117, w363_3118, w363_3119, w363_3120, Ko_n, Ko_v, vX_i, vX_r, vX_l, vX_j, reduceIte]
  refine r302 hI rfl r1.1 r1.2 hm fun b ρ hr => ?_
  obtain ⟨q1, q2, q3⟩ := hr
  have hb1 := Int32.le_toInt (i32 b)
  have hb2 := Int32.toInt_lt (i32 b)
  rw [← i32_toInt (i32 b)]
  generalize (i32 b).toInt = u at hb1 hb2 q3 ⊢
  simp (disch := (first | assumption | omega | exact Nat.le_of_ble_eq_true rfl | rfl)) only [w363_3123, w363_3125, w363_3126, Ko_n, Ko_v, vX_i, vX_r, vX_l, vX_j, reduceIte]
  rw [c174, q2]
  by_cases e : kk = 0
  · have q4 := q3 e
    simp (disch := (first | assumption | omega | exact Nat.le_of_ble_eq_true rfl | rfl)) only [w363_3129, w363_3131, w363_3134, w363_3135, w363_3136, w363_3138, w363_3141, w363_3142, w363_3143, w363_3144, w363_3146, w363_3147, w363_3151, w363_3152, w363_3153, Ko_n, Ko_v, vX_i, vX_r, vX_l, vX_j, reduceIte, e, q4, eq_self, not_true, if_true, if_false]
    exact next _ _ _ _ _ _ _ hta htb q1
  · simp (disch := (first | assumption | omega | exact Nat.le_of_ble_eq_true rfl | rfl)) only [w363_3129, w363_3131, w363_3134, w363_3135, w363_3136, w363_3138, w363_3141, w363_3142, w363_3143, w363_3144, w363_3146, w363_3147, w363_3151, w363_3152, w363_3153, Ko_n, Ko_v, vX_i, vX_r, vX_l, vX_j, reduceIte, e, eq_self, not_false_eq_true, if_true, if_false]
    exact next _ _ _ _ _ _ _ hta htb q1
theorem k43_3156 {d n : Nat} {i B : Int} {t1 t2 : Nat} {t3 : Bool} {S : Nat → Int} {σ : St} {Q : vmO → vmH → Prop} {l5 l6 l7 : Value} (hI : Inv B σ) (hB : B < 790000000) (h9 : 999 ≤ B) (i0 : 0 ≤ i) (i6 : i + 6 ≤ n) (nn : (n : Int) ≤ 3072) (hS : ∀ j : Nat, j < n → -2147483648 ≤ S j ∧ S j < 2147483648) (next : ∀ u1 u2 u3 ρ l5 l6 l7, u1 ≤ t1 + 1 → u2 ≤ t2 + 6 → Inv (B + 300000) ρ → Wp (d + 41) M_L_law 3253 [.ref 2000000, .ref 0, .ref 382, .ref 405, .int (i32 i), l5, l6, l7] [] (E (u1, u2, u3, n, S) ρ) Q) : Wp (d + 41) M_L_law 3156 [.ref 2000000, .ref 0, .ref 382, .ref 405, .int (i32 i), l5, l6, l7] [] (E (t1, t2, t3, n, S) σ) Q := by
  have h1 : i + 1 < (n : Int) := by omega
  have hn : (n : Int) < 2147483648 := by omega
  have r1 := hS (i + 1).toNat (by omega)
  simp (disch := (first | assumption | omega | exact Nat.le_of_ble_eq_true rfl | rfl)) only [w363_3156, w363_3157, w363_3158, w363_3160, w363_3161, w363_3162, w363_3163, Ko_n, Ko_v, vX_i, vX_r, vX_l, vX_j, reduceIte]
  refine l361 hI r1.1 r1.2 fun kk T' τ hm hT => ?_
  obtain ⟨ta, tb, tc, rfl, hta, htb⟩ := tt hT
  have kb := iaM_b hm
  simp (disch := (first | assumption | omega | exact Nat.le_of_ble_eq_true rfl | rfl)) only [w363_3166, w363_3168, w363_3169, w363_3170, w363_3172, w363_3173, w363_3174, w363_3175, Ko_n, Ko_v, vX_i, vX_r, vX_l, vX_j, reduceIte]
  refine r303 hI r1.1 r1.2 hm fun ρ q1 q2 => ?_
  simp (disch := (first | assumption | omega | exact Nat.le_of_ble_eq_true rfl | rfl)) only [w363_3178, w363_3179, Ko_n, Ko_v, vX_i, vX_r, vX_l, vX_j, reduceIte]
  rw [c174, q2]
  simp (disch := (first | assumption | omega | exact Nat.le_of_ble_eq_true rfl | rfl)) only [w363_3182, w363_3184, w363_3187, w363_3188, w363_3189, Ko_n, Ko_v, vX_i, vX_r, vX_l, vX_j, reduceIte, eq_self, if_true]
  exact next _ _ _ _ _ _ _ hta htb (Inv_le q1 (by omega))
theorem k44_3192 {d n : Nat} {i B : Int} {t1 t2 : Nat} {t3 : Bool} {S : Nat → Int} {σ : St} {Q : vmO → vmH → Prop} {l5 l6 l7 : Value} (hI : Inv B σ) (hB : B < 790000000) (h9 : 999 ≤ B) (i0 : 0 ≤ i) (i6 : i + 6 ≤ n) (nn : (n : Int) ≤ 3072) (hS : ∀ j : Nat, j < n → -2147483648 ≤ S j ∧ S j < 2147483648) (next : ∀ u1 u2 u3 ρ l5 l6 l7, u1 ≤ t1 + 1 → u2 ≤ t2 + 6 → Inv (B + 300000) ρ → Wp (d + 41) M_L_law 3253 [.ref 2000000, .ref 0, .ref 382, .ref 405, .int (i32 i), l5, l6, l7] [] (E (u1, u2, u3, n, S) ρ) Q) : Wp (d + 41) M_L_law 3192 [.ref 2000000, .ref 0, .ref 382, .ref 405, .int (i32 i), l5, l6, l7] [] (E (t1, t2, t3, n, S) σ) Q := by
  have h1 : i + 1 < (n : Int) := by omega
  have hn : (n : Int) < 2147483648 := by omega
  have r1 := hS (i + 1).toNat (by omega)
  simp (disch := (first | assumption | omega | exact Nat.le_of_ble_eq_true rfl | rfl)) only [w363_3192, w363_3193, w363_3194, w363_3196, w363_3197, w363_3198, w363_3199, Ko_n, Ko_v, vX_i, vX_r, vX_l, vX_j, reduceIte]
  refine l362 hI r1.1 r1.2 fun kk T' τ hm hT => ?_
  obtain ⟨ta, tb, tc, rfl, hta, htb⟩ := tt hT
  have kb := reM_b hm
  simp (disch := (first | assumption | omega | exact Nat.le_of_ble_eq_true rfl | rfl)) only [w363_3202, w363_3204, w363_3205, w363_3206, w363_3208, w363_3209, w363_3210, w363_3211, Ko_n, Ko_v, vX_i, vX_r, vX_l, vX_j, reduceIte]
  refine r304 hI r1.1 r1.2 hm fun ρ q1 q2 => ?_
  simp (disch := (first | assumption | omega | exact Nat.le_of_ble_eq_true rfl | rfl)) only [w363_3214, w363_3215, Ko_n, Ko_v, vX_i, vX_r, vX_l, vX_j, reduceIte]
  rw [c174, q2]
  simp (disch := (first | assumption | omega | exact Nat.le_of_ble_eq_true rfl | rfl)) only [w363_3218, w363_3220, w363_3223, w363_3224, w363_3225, Ko_n, Ko_v, vX_i, vX_r, vX_l, vX_j, reduceIte, eq_self, if_true]
  exact next _ _ _ _ _ _ _ hta htb (Inv_le q1 (by omega))
