/-! ===== the law's loop ===== -/
theorem an_63 {v : Int} : 0 ≤ an v 63 ∧ an v 63 ≤ 63 := by
  have e : an v 63 = (i32 v &&& i32 63).toInt := rfl
  have b : (i32 v &&& i32 63).toBitVec = (i32 v).toBitVec &&& 63#32 := rfl
  have n : ((i32 v).toBitVec &&& 63#32).toNat ≤ 63 := by
    rw [BitVec.toNat_and]
    exact Nat.and_le_right
  have t : (i32 v &&& i32 63).toInt = ((i32 v &&& i32 63).toBitVec).toInt := rfl
  rw [e, t, b, BitVec.toInt_eq_toNat_of_lt (by omega)]
  omega
theorem lawL {d n : Nat} {S : Nat → Int} {Q : vmO → vmH → Prop} (nn : (n : Int) ≤ 3072) (hS : ∀ j : Nat, j < n → -2147483648 ≤ S j ∧ S j < 2147483648) {b1 b2 : Nat} (hQ : ∀ u1 u2 u3 σ, u1 ≤ b1 → u2 ≤ b2 → Q (.inl (some (.int (i32 1)))) (E (u1, u2, u3, n, S) σ)) : ∀ (m : Nat) (i B : Int) (t1 t2 : Nat) (t3 : Bool) (σ : St) (l5 l6 l7 : Value), 0 ≤ i → (n : Int) < i + 6 * m + 6 → i ≤ 3100 → Inv B σ → 999 ≤ B → B + 300000 * m ≤ 780000000 → t1 + m ≤ b1 → t2 + 6 * m ≤ b2 → Wp (d + 41) M_L_law 23 [.ref 2000000, .ref 0, .ref 382, .ref 405, .int (i32 i), l5, l6, l7] [] (E (t1, t2, t3, n, S) σ) Q := by
  intro m
  induction m with
  | zero =>
    intro i B t1 t2 t3 σ l5 l6 l7 i0 hm i1 hI h9 hB hb1 hb2
    rw [w363_23]
    simp (disch := (first | assumption | omega | exact Nat.le_of_ble_eq_true rfl | rfl)) only [w363_25, w363_26, w363_27, w363_29, w363_30, w363_33, w363_34, w363_36, w363_37, w363_39, Ko_n, Ko_v, vX_i, vX_r, vX_l, vX_j, reduceIte, show (n : Int) - 6 < i by omega]
    simp (disch := (first | assumption | omega | exact Nat.le_of_ble_eq_true rfl | rfl)) only [w363_3259, w363_3260, Ko_n, Ko_v, vX_i, vX_r, vX_l, vX_j, reduceIte]
    exact hQ _ _ _ _ (by omega) (by omega)
  | succ m ih =>
    intro i B t1 t2 t3 σ l5 l6 l7 i0 hm i1 hI h9 hB hb1 hb2
    by_cases hx : (n : Int) - 6 < i
    · rw [w363_23]
      simp (disch := (first | assumption | omega | exact Nat.le_of_ble_eq_true rfl | rfl)) only [w363_25, w363_26, w363_27, w363_29, w363_30, w363_33, w363_34, w363_36, w363_37, w363_39, Ko_n, Ko_v, vX_i, vX_r, vX_l, vX_j, reduceIte, hx]
      simp (disch := (first | assumption | omega | exact Nat.le_of_ble_eq_true rfl | rfl)) only [w363_3259, w363_3260, Ko_n, Ko_v, vX_i, vX_r, vX_l, vX_j, reduceIte]
      exact hQ _ _ _ _ (by omega) (by omega)
    · have i6 : i + 6 ≤ (n : Int) := by omega
      have hn : (n : Int) < 2147483648 := by omega
      have h0 : i < (n : Int) := by omega
      have next : ∀ u1 u2 u3 ρ l5 l6 l7, u1 ≤ t1 + 1 → u2 ≤ t2 + 6 → Inv (B + 300000) ρ → Wp (d + 41) M_L_law 3253 [.ref 2000000, .ref 0, .ref 382, .ref 405, .int (i32 i), l5, l6, l7] [] (E (u1, u2, u3, n, S) ρ) Q := by
        intro u1 u2 u3 ρ l5 l6 l7 hu1 hu2 hr
        have s := ih (i + 6) (B + 300000) u1 u2 u3 ρ l5 l6 l7 (by omega) (by omega) (by omega) hr (by omega) (by omega) (by omega) (by omega)
        simp (disch := (first | assumption | omega | exact Nat.le_of_ble_eq_true rfl | rfl)) only [w363_3253, w363_3256, Ko_n, Ko_v, vX_i, vX_r, vX_l, vX_j, reduceIte]
        exact s
      have hB' : B < 790000000 := by omega
      have ab := an_63 (v := S i.toNat)
      rw [w363_23]
      simp (disch := (first | assumption | omega | exact Nat.le_of_ble_eq_true rfl | rfl)) only [w363_25, w363_26, w363_27, w363_29, w363_30, w363_33, w363_34, w363_36, w363_37, w363_39, Ko_n, Ko_v, vX_i, vX_r, vX_l, vX_j, reduceIte, hx]
      rw [w363_40 _ _ _ _ _ _ (by omega) (by omega)]
      generalize an (S i.toNat) 63 = u at ab ⊢
      have hc : u = 0 ∨ u = 1 ∨ u = 2 ∨ u = 3 ∨ u = 4 ∨ u = 5 ∨ u = 6 ∨ u = 7 ∨ u = 8 ∨ u = 9 ∨ u = 10 ∨ u = 11 ∨ u = 12 ∨ u = 13 ∨ u = 14 ∨ u = 15 ∨ u = 16 ∨ u = 17 ∨ u = 18 ∨ u = 19 ∨ u = 20 ∨ u = 21 ∨ u = 22 ∨ u = 23 ∨ u = 24 ∨ u = 25 ∨ u = 26 ∨ u = 27 ∨ u = 28 ∨ u = 29 ∨ u = 30 ∨ u = 31 ∨ u = 32 ∨ u = 33 ∨ u = 34 ∨ u = 35 ∨ u = 36 ∨ u = 37 ∨ u = 38 ∨ u = 39 ∨ u = 40 ∨ u = 41 ∨ u = 42 ∨ u = 43 ∨ u = 44 ∨ u = 45 ∨ u = 46 ∨ u = 47 ∨ u = 48 ∨ u = 49 ∨ u = 50 ∨ u = 51 ∨ u = 52 ∨ u = 53 ∨ u = 54 ∨ u = 55 ∨ u = 56 ∨ u = 57 ∨ u = 58 ∨ u = 59 ∨ u = 60 ∨ u = 61 ∨ u = 62 ∨ u = 63 := by omega
      rcases hc with rfl | rfl | rfl | rfl | rfl | rfl | rfl | rfl | rfl | rfl | rfl | rfl | rfl | rfl | rfl | rfl | rfl | rfl | rfl | rfl | rfl | rfl | rfl | rfl | rfl | rfl | rfl | rfl | rfl | rfl | rfl | rfl | rfl | rfl | rfl | rfl | rfl | rfl | rfl | rfl | rfl | rfl | rfl | rfl | rfl | rfl | rfl | rfl | rfl | rfl | rfl | rfl | rfl | rfl | rfl | rfl | rfl | rfl | rfl | rfl | rfl | rfl | rfl | rfl
      · exact k0_240 hI hB' h9 i0 i6 nn hS next
      · exact k1_313 hI hB' h9 i0 i6 nn hS next
      · exact k2_369 hI hB' h9 i0 i6 nn hS next
      · exact k3_394 hI hB' h9 i0 i6 nn hS next
      · exact k4_462 hI hB' h9 i0 i6 nn hS next
      · exact k5_530 hI hB' h9 i0 i6 nn hS next
      · exact k6_544 hI hB' h9 i0 i6 nn hS next
      · exact k7_557 hI hB' h9 i0 i6 nn hS next
      · exact k8_625 hI hB' h9 i0 i6 nn hS next
      · exact k9_693 hI hB' h9 i0 i6 nn hS next
      · exact k10_761 hI hB' h9 i0 i6 nn hS next
      · exact k11_817 hI hB' h9 i0 i6 nn hS next
      · exact k12_873 hI hB' h9 i0 i6 nn hS next
      · exact k13_941 hI hB' h9 i0 i6 nn hS next
      · exact k14_997 hI hB' h9 i0 i6 nn hS next
      · exact k15_1065 hI hB' h9 i0 i6 nn hS next
      · exact k16_1133 hI hB' h9 i0 i6 nn hS next
      · exact k17_1213 hI hB' h9 i0 i6 nn hS next
      · exact k18_1280 hI hB' h9 i0 i6 nn hS next
      · exact k19_1360 hI hB' h9 i0 i6 nn hS next
      · exact k20_1440 hI hB' h9 i0 i6 nn hS next
      · exact k21_1520 hI hB' h9 i0 i6 nn hS next
      · exact k22_1612 hI hB' h9 i0 i6 nn hS next
      · exact k23_1679 hI hB' h9 i0 i6 nn hS next
      · exact k24_1735 hI hB' h9 i0 i6 nn hS next
      · exact k25_1803 hI hB' h9 i0 i6 nn hS next
      · exact k26_1871 hI hB' h9 i0 i6 nn hS next
      · exact k27_1979 hI hB' h9 i0 i6 nn hS next
      · exact k28_2035 hI hB' h9 i0 i6 nn hS next
      · exact k29_2090 hI hB' h9 i0 i6 nn hS next
      · exact k30_2158 hI hB' h9 i0 i6 nn hS next
      · exact k31_2225 hI hB' h9 i0 i6 nn hS next
      · exact k32_2293 hI hB' h9 i0 i6 nn hS next
      · exact k33_2373 hI hB' h9 i0 i6 nn hS next
      · exact k34_2453 hI hB' h9 i0 i6 nn hS next
      · exact k35_2533 hI hB' h9 i0 i6 nn hS next
      · exact k36_2612 hI hB' h9 i0 i6 nn hS next
      · exact k37_2691 hI hB' h9 i0 i6 nn hS next
      · exact k38_2782 hI hB' h9 i0 i6 nn hS next
      · exact k39_2862 hI hB' h9 i0 i6 nn hS next
      · exact k40_2929 hI hB' h9 i0 i6 nn hS next
      · exact k41_2989 hI hB' h9 i0 i6 nn hS next
      · exact k42_3100 hI hB' h9 i0 i6 nn hS next
      · exact k43_3156 hI hB' h9 i0 i6 nn hS next
      · exact k44_3192 hI hB' h9 i0 i6 nn hS next
      · exact k45_3228 hI hB' h9 i0 i6 nn hS next
      · exact next _ _ _ _ _ _ _ (by omega) (by omega) (Inv_le hI (by omega))
      · exact next _ _ _ _ _ _ _ (by omega) (by omega) (Inv_le hI (by omega))
      · exact next _ _ _ _ _ _ _ (by omega) (by omega) (Inv_le hI (by omega))
      · exact next _ _ _ _ _ _ _ (by omega) (by omega) (Inv_le hI (by omega))
      · exact next _ _ _ _ _ _ _ (by omega) (by omega) (Inv_le hI (by omega))
      · exact next _ _ _ _ _ _ _ (by omega) (by omega) (Inv_le hI (by omega))
      · exact next _ _ _ _ _ _ _ (by omega) (by omega) (Inv_le hI (by omega))
      · exact next _ _ _ _ _ _ _ (by omega) (by omega) (Inv_le hI (by omega))
      · exact next _ _ _ _ _ _ _ (by omega) (by omega) (Inv_le hI (by omega))
      · exact next _ _ _ _ _ _ _ (by omega) (by omega) (Inv_le hI (by omega))
      · exact next _ _ _ _ _ _ _ (by omega) (by omega) (Inv_le hI (by omega))
      · exact next _ _ _ _ _ _ _ (by omega) (by omega) (Inv_le hI (by omega))
      · exact next _ _ _ _ _ _ _ (by omega) (by omega) (Inv_le hI (by omega))
      · exact next _ _ _ _ _ _ _ (by omega) (by omega) (Inv_le hI (by omega))
      · exact next _ _ _ _ _ _ _ (by omega) (by omega) (Inv_le hI (by omega))
      · exact next _ _ _ _ _ _ _ (by omega) (by omega) (Inv_le hI (by omega))
      · exact next _ _ _ _ _ _ _ (by omega) (by omega) (Inv_le hI (by omega))
      · exact next _ _ _ _ _ _ _ (by omega) (by omega) (Inv_le hI (by omega))
