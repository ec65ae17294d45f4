/-! ===== Growth: nights ===== -/
theorem cnt_in {p : Int → Bool} (n : Nat) : 0 ≤ cnt p n ∧ cnt p n ≤ n := by
  induction n with
  | zero => exact ⟨Int.le_refl _, Int.le_refl _⟩
  | succ n ih =>
    simp only [cnt]
    cases p n <;> simp <;> omega
/-- what a law is told of a hedge -/
def fct (W H : Int) (kd tk : Int → Int) (nt z : Int) : Int → Int := fun j => if j = 0 then z % W else if j = 1 then z / W else if j = 2 then kd z else if j = 3 then tk z else if j = 4 then cnt (fun k => nbB W H (fun i => decide (i = z)) k && hgB kd k) 64 else nt % 1000
/-- a law that any facts can be told -/
def lawG (cd : Int → Int) (n : Nat) : Prop := ∀ fc : Int → Int, (∀ j, 0 ≤ j → j ≤ 5 → 0 ≤ fc j ∧ fc j ≤ 1000) → lwOk fc cd n ∧ (lwR fc cd n).length ≤ 64 ∧ ∀ v ∈ lwR fc cd n, -1000000 ≤ v ∧ v ≤ 1000000
def grB (W H : Int) (kd tk : Int → Int) (nt : Int) (cd : Int → Int) (n : Nat) : Int → Bool := fun z => hgB kd z && (decide (tk z < 60) && (decide (n ≠ 0) && decide (lwR (fct W H kd tk nt z) cd n = [1])))
theorem lwR_congr {fc fc' cd : Int → Int} (h : ∀ j, 0 ≤ j → j ≤ 5 → fc j = fc' j) {n : Nat} (hc : ∀ i : Nat, i < n → 0 ≤ cd i ∧ cd i ≤ 1014) : ∀ i, i ≤ n → lwR fc cd i = lwR fc' cd i := by
  intro i
  induction i with
  | zero => intro _; rfl
  | succ i ih =>
    intro hi
    have hci := hc i (by omega)
    simp only [lwR]
    rw [ih (by omega)]
    unfold lwS
    by_cases h6 : cd i < 1006
    · rw [if_pos h6, if_pos h6]
      by_cases h5 : cd i < 1000
      · rw [if_pos h5, if_pos h5]
      · rw [if_neg h5, if_neg h5, h _ (by omega) (by omega)]
    · rw [if_neg h6, if_neg h6]
theorem c16 {d : Nat} {k W H z : Int} {g p s many : Nat} {T : Tt} {σ : St} {Q : vmO → vmH → Prop} (hg : ob 2 g) (hp : ob 4 p) (hs : ob 7 s) (hge : geo σ p W H) (h : wh2 W H) (hkd : kdOk (σ 700 s)) (htk : tkOk (σ 701 s)) (n0 : 0 ≤ σ 705 s 0) (n1 : σ 705 s 0 < 2147483648) (hm : σ 301 (p + 4) 0 = many) (hm1 : many ≤ 900) (hlaw : lawG (σ 300 (p + 4)) many) (z0 : 0 ≤ z) (z1 : z < W * H)
    (hQ : ∀ F S, Q (.inl (some (.int (i32 (if grB W H (σ 700 s) (σ 701 s) (σ 705 s 0) (σ 300 (p + 4)) many z then 1 else 0))))) (E T (upA (upA σ 201 g F) 200 g S))) : Ca (d + 2) k 16 [.ref g, .ref p, .ref s, .int (i32 z), .long (bs (hgB (σ 700 s)))] (E T σ) Q := by
  have hg3 := ob_lt hg
  have hp3 := ob_lt hp
  have hs3 := ob_lt hs
  have hl := ob_law hp
  have hwm := wh_mul h
  have hkz := hkd z z0 (by omega)
  have htz := htk z z0 (by omega)
  have h2 := h
  obtain ⟨ha, hb, hc, hd⟩ := h2
  have g1 := hge.1
  have hq0 := hQ (σ 201 g) (σ 200 g)
  rw [upA_self, upA_self] at hq0
  rw [n16 _ _ _ _ _ _ _ _ _ _ hg]
  cases hh : hgB (σ 700 s) z with
  | false =>
    have hgr : grB W H (σ 700 s) (σ 701 s) (σ 705 s 0) (σ 300 (p + 4)) many z = false := by unfold grB; rw [hh]; rfl
    rw [hgr] at hq0
    simp (disch := (first | assumption | omega | exact Nat.le_of_ble_eq_true rfl | rfl)) only [w16_0, w16_2, w16_3, w16_6, w16_9, w16_10, w16_13, w16_14, w16_15, w16_17, w16_20, w16_21, w16_24, w16_27, w16_30, w16_31, w16_32, w16_33, w16_36, w16_37, w16_38, w16_39, w16_42, w16_43, w16_44, w16_47, w16_48, w16_49, w16_50, w16_53, w16_54, w16_55, w16_58, w16_59, w16_60, w16_63, w16_64, w16_65, w16_66, w16_67, w16_70, w16_71, w16_72, w16_75, w16_76, w16_77, w16_78, w16_79, w16_82, w16_83, w16_84, w16_85, w16_86, w16_87, w16_90, w16_92, w16_93, w16_96, w16_97, w16_98, w16_101, w16_102, w16_103, w16_106, w16_109, w16_110, w16_111, w16_112, w16_113, w16_116, w16_119, Ko_n, Ko_v, vX_i, vX_r, vX_l, vX_j, reduceIte, c172, hh, Bool.false_eq_true]
    exact hq0
  | true =>
    by_cases h6 : σ 701 s z < 60
    · by_cases hmz : many = 0
      · have hgr : grB W H (σ 700 s) (σ 701 s) (σ 705 s 0) (σ 300 (p + 4)) many z = false := by unfold grB; rw [hmz]; simp
        rw [hgr] at hq0
        simp (disch := (first | assumption | omega | exact Nat.le_of_ble_eq_true rfl | rfl)) only [w16_0, w16_2, w16_3, w16_6, w16_9, w16_10, w16_13, w16_14, w16_15, w16_17, w16_20, w16_21, w16_24, w16_27, w16_30, w16_31, w16_32, w16_33, w16_36, w16_37, w16_38, w16_39, w16_42, w16_43, w16_44, w16_47, w16_48, w16_49, w16_50, w16_53, w16_54, w16_55, w16_58, w16_59, w16_60, w16_63, w16_64, w16_65, w16_66, w16_67, w16_70, w16_71, w16_72, w16_75, w16_76, w16_77, w16_78, w16_79, w16_82, w16_83, w16_84, w16_85, w16_86, w16_87, w16_90, w16_92, w16_93, w16_96, w16_97, w16_98, w16_101, w16_102, w16_103, w16_106, w16_109, w16_110, w16_111, w16_112, w16_113, w16_116, w16_119, Ko_n, Ko_v, vX_i, vX_r, vX_l, vX_j, reduceIte, c172, hh, show ¬ (60 : Int) ≤ σ 701 s z by omega, hm, show ((many : Int) = 0) = True from eq_true (by omega), not_true, Int.reduceEq]
        exact hq0
      · have hfz : ∀ j, 0 ≤ j → j ≤ 5 → 0 ≤ fct W H (σ 700 s) (σ 701 s) (σ 705 s 0) z j ∧ fct W H (σ 700 s) (σ 701 s) (σ 705 s 0) z j ≤ 1000 := by
          intro j j0 j1
          have hcn := cnt_in (p := fun k => nbB W H (fun i => decide (i = z)) k && hgB (σ 700 s) k) 64
          have e0 := Int.emod_nonneg z (show W ≠ 0 by omega)
          have e1 := Int.emod_lt_of_pos z (show 0 < W by omega)
          have e2 := Int.ediv_nonneg z0 (show 0 ≤ W by omega)
          have e3 := Int.ediv_le_self W z0
          have e4 := Int.emod_nonneg (σ 705 s 0) (show (1000 : Int) ≠ 0 by omega)
          have e5 := Int.emod_lt_of_pos (σ 705 s 0) (show (0 : Int) < 1000 by omega)
          unfold fct
          have : j = 0 ∨ j = 1 ∨ j = 2 ∨ j = 3 ∨ j = 4 ∨ j = 5 := by omega
          rcases this with rfl | rfl | rfl | rfl | rfl | rfl <;> simp <;> omega
        have hL := hlaw _ hfz
        obtain ⟨F, hF⟩ : ∃ F, F = fu (fu (fu (fu (fu (fu (σ 201 g) 0 (z % W)) 1 (z / W)) 2 (σ 700 s z)) 3 (σ 701 s z)) 4 (cnt (fun k => nbB W H (fun i => decide (i = z)) k && hgB (σ 700 s) k) 64)) 5 (σ 705 s 0 % 1000) := ⟨_, rfl⟩
        have hFc : ∀ j, 0 ≤ j → j ≤ 5 → F j = fct W H (σ 700 s) (σ 701 s) (σ 705 s 0) z j := by
          intro j j0 j1
          rw [hF]
          unfold fct
          have : j = 0 ∨ j = 1 ∨ j = 2 ∨ j = 3 ∨ j = 4 ∨ j = 5 := by omega
          rcases this with rfl | rfl | rfl | rfl | rfl | rfl <;> simp [fu]
        have hcd : ∀ i : Nat, i < many → 0 ≤ σ 300 (p + 4) i ∧ σ 300 (p + 4) i ≤ 1014 := fun i hi => ⟨(hL.1 i hi).1, (hL.1 i hi).2.1⟩
        have hcg := lwR_congr hFc hcd
        have hok : lwOk F (σ 300 (p + 4)) many := by
          intro i hi
          rw [hcg i (by omega)]
          exact hL.1 i hi
        have hgr : grB W H (σ 700 s) (σ 701 s) (σ 705 s 0) (σ 300 (p + 4)) many z = decide (lwR F (σ 300 (p + 4)) many = [1]) := by
          unfold grB
          rw [hh, decide_eq_true h6, decide_eq_true hmz, hcg many (by omega)]
          rfl
        have hnb : ∀ k, 0 ≤ k → k < 64 → decide (k = z) = true → k < W * H := fun k _ _ hk => by have := of_decide_eq_true hk; omega
        have hmz' : ¬ (many : Int) = 0 := by omega
        simp (disch := (first | assumption | omega | exact Nat.le_of_ble_eq_true rfl | rfl)) only [w16_0, w16_2, w16_3, w16_6, w16_9, w16_10, w16_13, w16_14, w16_15, w16_17, w16_20, w16_21, w16_24, w16_27, w16_30, w16_31, w16_32, w16_33, w16_36, w16_37, w16_38, w16_39, w16_42, w16_43, w16_44, w16_47, w16_48, w16_49, w16_50, w16_53, w16_54, w16_55, w16_58, w16_59, w16_60, w16_63, w16_64, w16_65, w16_66, w16_67, w16_70, w16_71, w16_72, w16_75, w16_76, w16_77, w16_78, w16_79, w16_82, w16_83, w16_84, w16_85, w16_86, w16_87, w16_90, w16_92, w16_93, w16_96, w16_97, w16_98, w16_101, w16_102, w16_103, w16_106, w16_109, w16_110, w16_111, w16_112, w16_113, w16_116, w16_119, Ko_n, Ko_v, vX_i, vX_r, vX_l, vX_j, reduceIte, c172, hh, show ¬ (60 : Int) ≤ σ 701 s z by omega, hm, hmz', not_false_eq_true, Int.reduceEq]
        rw [c29 hp (by omega) (by omega) z0 (by omega), g1]
        simp (disch := (first | assumption | omega | exact Nat.le_of_ble_eq_true rfl | rfl)) only [w16_0, w16_2, w16_3, w16_6, w16_9, w16_10, w16_13, w16_14, w16_15, w16_17, w16_20, w16_21, w16_24, w16_27, w16_30, w16_31, w16_32, w16_33, w16_36, w16_37, w16_38, w16_39, w16_42, w16_43, w16_44, w16_47, w16_48, w16_49, w16_50, w16_53, w16_54, w16_55, w16_58, w16_59, w16_60, w16_63, w16_64, w16_65, w16_66, w16_67, w16_70, w16_71, w16_72, w16_75, w16_76, w16_77, w16_78, w16_79, w16_82, w16_83, w16_84, w16_85, w16_86, w16_87, w16_90, w16_92, w16_93, w16_96, w16_97, w16_98, w16_101, w16_102, w16_103, w16_106, w16_109, w16_110, w16_111, w16_112, w16_113, w16_116, w16_119, Ko_n, Ko_v, vX_i, vX_r, vX_l, vX_j, reduceIte, upA_t, upA_s]
        rw [c30 hp (by simp (disch := omega) only [upA_t]; omega) (by simp (disch := omega) only [upA_t]; omega) z0 (by omega)]
        simp (disch := (first | assumption | omega | exact Nat.le_of_ble_eq_true rfl | rfl)) only [w16_0, w16_2, w16_3, w16_6, w16_9, w16_10, w16_13, w16_14, w16_15, w16_17, w16_20, w16_21, w16_24, w16_27, w16_30, w16_31, w16_32, w16_33, w16_36, w16_37, w16_38, w16_39, w16_42, w16_43, w16_44, w16_47, w16_48, w16_49, w16_50, w16_53, w16_54, w16_55, w16_58, w16_59, w16_60, w16_63, w16_64, w16_65, w16_66, w16_67, w16_70, w16_71, w16_72, w16_75, w16_76, w16_77, w16_78, w16_79, w16_82, w16_83, w16_84, w16_85, w16_86, w16_87, w16_90, w16_92, w16_93, w16_96, w16_97, w16_98, w16_101, w16_102, w16_103, w16_106, w16_109, w16_110, w16_111, w16_112, w16_113, w16_116, w16_119, Ko_n, Ko_v, vX_i, vX_r, vX_l, vX_j, reduceIte, upA_t, upA_s, upA_upA, g1]
        rw [bs_one z0 (by omega), c32 (q := fun k => decide (k = z)) hp (geo_t hge (by simp (disch := omega) only [upA_t]) (by simp (disch := omega) only [upA_t]) (by simp (disch := omega) only [upA_t]) (by simp (disch := omega) only [upA_t]) (by simp (disch := omega) only [upA_t]) (by simp (disch := omega) only [upA_t])) h hnb]
        simp (disch := (first | assumption | omega | exact Nat.le_of_ble_eq_true rfl | rfl)) only [w16_0, w16_2, w16_3, w16_6, w16_9, w16_10, w16_13, w16_14, w16_15, w16_17, w16_20, w16_21, w16_24, w16_27, w16_30, w16_31, w16_32, w16_33, w16_36, w16_37, w16_38, w16_39, w16_42, w16_43, w16_44, w16_47, w16_48, w16_49, w16_50, w16_53, w16_54, w16_55, w16_58, w16_59, w16_60, w16_63, w16_64, w16_65, w16_66, w16_67, w16_70, w16_71, w16_72, w16_75, w16_76, w16_77, w16_78, w16_79, w16_82, w16_83, w16_84, w16_85, w16_86, w16_87, w16_90, w16_92, w16_93, w16_96, w16_97, w16_98, w16_101, w16_102, w16_103, w16_106, w16_109, w16_110, w16_111, w16_112, w16_113, w16_116, w16_119, Ko_n, Ko_v, vX_i, vX_r, vX_l, vX_j, reduceIte, bs_and]
        rw [c307 (by omega)]
        simp (disch := (first | assumption | omega | exact Nat.le_of_ble_eq_true rfl | rfl)) only [w16_0, w16_2, w16_3, w16_6, w16_9, w16_10, w16_13, w16_14, w16_15, w16_17, w16_20, w16_21, w16_24, w16_27, w16_30, w16_31, w16_32, w16_33, w16_36, w16_37, w16_38, w16_39, w16_42, w16_43, w16_44, w16_47, w16_48, w16_49, w16_50, w16_53, w16_54, w16_55, w16_58, w16_59, w16_60, w16_63, w16_64, w16_65, w16_66, w16_67, w16_70, w16_71, w16_72, w16_75, w16_76, w16_77, w16_78, w16_79, w16_82, w16_83, w16_84, w16_85, w16_86, w16_87, w16_90, w16_92, w16_93, w16_96, w16_97, w16_98, w16_101, w16_102, w16_103, w16_106, w16_109, w16_110, w16_111, w16_112, w16_113, w16_116, w16_119, Ko_n, Ko_v, vX_i, vX_r, vX_l, vX_j, reduceIte, upA_t, upA_s, upA_upA]
        rw [← hF]
        refine c17 (σ := upA σ 201 g F) hg hl (by simp (disch := omega) only [upA_t]; exact hm) hm1 (by simp (disch := omega) only [upA_t, upA_s]; exact hok) (by simp (disch := omega) only [upA_t, upA_s]; rw [hcg many (by omega)]; exact hL.2) ?_
        intro S
        have hq := hQ F S
        rw [hgr] at hq
        simp (disch := omega) only [upA_t, upA_s]
        have hb01 : (if lwR F (σ 300 (p + 4)) many = [1] then (1 : Int) else 0) = 0 ∨ (if lwR F (σ 300 (p + 4)) many = [1] then (1 : Int) else 0) = 1 := by split <;> simp
        simp (disch := (first | assumption | omega | exact Nat.le_of_ble_eq_true rfl | rfl)) only [w16_0, w16_2, w16_3, w16_6, w16_9, w16_10, w16_13, w16_14, w16_15, w16_17, w16_20, w16_21, w16_24, w16_27, w16_30, w16_31, w16_32, w16_33, w16_36, w16_37, w16_38, w16_39, w16_42, w16_43, w16_44, w16_47, w16_48, w16_49, w16_50, w16_53, w16_54, w16_55, w16_58, w16_59, w16_60, w16_63, w16_64, w16_65, w16_66, w16_67, w16_70, w16_71, w16_72, w16_75, w16_76, w16_77, w16_78, w16_79, w16_82, w16_83, w16_84, w16_85, w16_86, w16_87, w16_90, w16_92, w16_93, w16_96, w16_97, w16_98, w16_101, w16_102, w16_103, w16_106, w16_109, w16_110, w16_111, w16_112, w16_113, w16_116, w16_119, Ko_n, Ko_v, vX_i, vX_r, vX_l, vX_j, reduceIte, hb01]
        by_cases hx : lwR F (σ 300 (p + 4)) many = [1]
        · rw [if_pos hx]
          rw [if_pos (decide_eq_true hx)] at hq
          exact hq
        · rw [if_neg hx]
          rw [if_neg (fun w => hx (of_decide_eq_true w))] at hq
          exact hq
    · have hgr : grB W H (σ 700 s) (σ 701 s) (σ 705 s 0) (σ 300 (p + 4)) many z = false := by unfold grB; rw [decide_eq_false h6]; simp
      rw [hgr] at hq0
      simp (disch := (first | assumption | omega | exact Nat.le_of_ble_eq_true rfl | rfl)) only [w16_0, w16_2, w16_3, w16_6, w16_9, w16_10, w16_13, w16_14, w16_15, w16_17, w16_20, w16_21, w16_24, w16_27, w16_30, w16_31, w16_32, w16_33, w16_36, w16_37, w16_38, w16_39, w16_42, w16_43, w16_44, w16_47, w16_48, w16_49, w16_50, w16_53, w16_54, w16_55, w16_58, w16_59, w16_60, w16_63, w16_64, w16_65, w16_66, w16_67, w16_70, w16_71, w16_72, w16_75, w16_76, w16_77, w16_78, w16_79, w16_82, w16_83, w16_84, w16_85, w16_86, w16_87, w16_90, w16_92, w16_93, w16_96, w16_97, w16_98, w16_101, w16_102, w16_103, w16_106, w16_109, w16_110, w16_111, w16_112, w16_113, w16_116, w16_119, Ko_n, Ko_v, vX_i, vX_r, vX_l, vX_j, reduceIte, c172, hh, show (60 : Int) ≤ σ 701 s z by omega, Int.reduceEq]
      exact hq0
