/-! ===== Rounds: one round, orders ===== -/
theorem ob_ro : ob 6 167 := (rfl : sh 167 = (2, 6, 0, 0, 0))
theorem ob_rw : ob 10 168 := (rfl : sh 168 = (2, 10, 0, 0, 0))
/-- a round's state: cost, how many late, the first, where one is (a row of legs), whether one is stuck -/
abbrev Rd : Type := Int × Int × Int × Int × Bool
def rdS1 (lg du : Int → Int) (st e : Int) (x : Rd) : Rd :=
  let k := x.2.2.2.2 || decide (far ≤ lg (4 * x.2.2.2.1 + e))
  let c := if k then x.1 else x.1 + lg (4 * x.2.2.2.1 + e)
  let f := if k then x.2.2.2.1 else e + 1
  if k = true ∨ du e < st + c then (c, x.2.1 + 1, (if x.2.2.1 = -1 then e else x.2.2.1), f, k) else (c, x.2.1, x.2.2.1, f, k)
def rdI (lg du : Int → Int) (st : Int) (o : Int → Int) : Nat → Rd
  | 0 => (0, 0, -1, 0, false)
  | n + 1 => rdS1 lg du st (o n) (rdI lg du st o n)
def lgOk (N : Nat) (lg : Int → Int) : Prop := ∀ i e : Int, 0 ≤ i → i ≤ N → 0 ≤ e → e < N → (0 ≤ lg (4 * i + e) ∧ lg (4 * i + e) ≤ 10000) ∨ lg (4 * i + e) = far
theorem rdI_in {lg du o : Int → Int} {st : Int} {N : Nat} (hl : lgOk N lg) (hN : N ≤ 4) (ho : ∀ i : Nat, i < N → 0 ≤ o i ∧ o i < N) (n : Nat) : n ≤ N → 0 ≤ (rdI lg du st o n).1 ∧ (rdI lg du st o n).1 ≤ 10000 * n ∧ 0 ≤ (rdI lg du st o n).2.1 ∧ (rdI lg du st o n).2.1 ≤ n ∧ -1 ≤ (rdI lg du st o n).2.2.1 ∧ (rdI lg du st o n).2.2.1 < 4 ∧ 0 ≤ (rdI lg du st o n).2.2.2.1 ∧ (rdI lg du st o n).2.2.2.1 ≤ N := by
  have hfar : far = 1000000000 := rfl
  induction n with
  | zero => intro _; simp [rdI]
  | succ n ih =>
    intro hn
    obtain ⟨i1, i2, i3, i4, i5, i6, i7, i8⟩ := ih (by omega)
    have hon := ho n (by omega)
    have hlg := hl (rdI lg du st o n).2.2.2.1 (o n) (by omega) (by omega) (by omega) (by omega)
    simp only [rdI]
    unfold rdS1
    generalize rdI lg du st o n = x at *
    obtain ⟨c, l, f, r, k⟩ := x
    dsimp only at *
    have hc : ∀ b : Bool, (b = false → lg (4 * r + o n) < far) → 0 ≤ (if b = true then c else c + lg (4 * r + o n)) ∧ (if b = true then c else c + lg (4 * r + o n)) ≤ 10000 * ((n + 1 : Nat) : Int) := by
      intro b hb
      cases b with
      | true => simp; omega
      | false =>
        have := hb rfl
        simp only [Bool.false_eq_true, if_false]
        omega
    have hcc := hc (k || decide (far ≤ lg (4 * r + o n))) (fun hb => by
      rw [Bool.or_eq_false_iff] at hb
      have := of_decide_eq_false hb.2
      omega)
    have hr : ∀ b : Bool, 0 ≤ (if b = true then r else o n + 1) ∧ (if b = true then r else o n + 1) ≤ N := by
      intro b
      cases b <;> simp <;> omega
    have hrr := hr (k || decide (far ≤ lg (4 * r + o n)))
    generalize (k || decide (far ≤ lg (4 * r + o n))) = kk at *
    generalize (if kk = true then c else c + lg (4 * r + o n)) = cc at *
    generalize (if kk = true then r else o n + 1) = rr at *
    by_cases hX : kk = true ∨ du (o n) < st + cc
    · rw [if_pos hX]
      refine ⟨hcc.1, hcc.2, ?_, ?_, ?_, ?_, hrr.1, hrr.2⟩
      · show 0 ≤ l + 1; omega
      · show l + 1 ≤ ((n + 1 : Nat) : Int); omega
      · show -1 ≤ (if f = -1 then o n else f); split <;> omega
      · show (if f = -1 then o n else f) < 4; split <;> omega
    · rw [if_neg hX]
      refine ⟨hcc.1, hcc.2, i3, ?_, i5, i6, hrr.1, hrr.2⟩
      show l ≤ ((n + 1 : Nat) : Int); omega
def rgS (σ : St) (c l f : Int) : St := upA (upA (upA σ 606 167 fun _ => c) 607 167 fun _ => l) 608 167 fun _ => f
theorem rg6 {σ : St} {c l f : Int} : rgS σ c l f 606 167 = fun _ => c := by unfold rgS; rw [upA_t (by omega), upA_t (by omega), upA_s]
theorem rg7 {σ : St} {c l f : Int} : rgS σ c l f 607 167 = fun _ => l := by unfold rgS; rw [upA_t (by omega), upA_s]
theorem rg8 {σ : St} {c l f : Int} : rgS σ c l f 608 167 = fun _ => f := by unfold rgS; rw [upA_s]
theorem rgt {σ : St} {c l f : Int} {t o : Nat} (h6 : t ≠ 606) (h7 : t ≠ 607) (h8 : t ≠ 608) : rgS σ c l f t o = σ t o := by unfold rgS; rw [upA_t h8, upA_t h7, upA_t h6]
theorem ru6 {σ : St} {c l f v : Int} : upA (rgS σ c l f) 606 167 (fun _ => v) = rgS σ v l f := by
  unfold rgS
  rw [upA_comm (t := 608) (t' := 606) (by omega), upA_comm (t := 607) (t' := 606) (by omega), upA_upA]
theorem ru7 {σ : St} {c l f v : Int} : upA (rgS σ c l f) 607 167 (fun _ => v) = rgS σ c v f := by
  unfold rgS
  rw [upA_comm (t := 608) (t' := 607) (by omega), upA_upA]
theorem ru8 {σ : St} {c l f v : Int} : upA (rgS σ c l f) 608 167 (fun _ => v) = rgS σ c l v := by
  unfold rgS
  rw [upA_upA]
theorem c69 {d N : Nat} {k : Int} {T : Tt} {σ : St} {Q : vmO → vmH → Prop} (hn : σ 604 167 0 = N) (hN : N ≤ 4) (ho : ∀ i : Nat, i < N → 0 ≤ σ 603 167 i ∧ σ 603 167 i < N) (hl : lgOk N (σ 601 167)) (hd : ∀ j, 0 ≤ j → j < (N : Int) → 0 ≤ σ 602 167 j ∧ σ 602 167 j ≤ 999) (s0 : 0 ≤ σ 605 167 0) (s1 : σ 605 167 0 < 1000000000) :
    Ca d k 69 [.ref 167] (E T σ) Q = Q (.inl none) (E T (rgS σ (rdI (σ 601 167) (σ 602 167) (σ 605 167 0) (σ 603 167) N).1 (rdI (σ 601 167) (σ 602 167) (σ 605 167 0) (σ 603 167) N).2.1 (rdI (σ 601 167) (σ 602 167) (σ 605 167 0) (σ 603 167) N).2.2.1)) := by
  have hr := ob_ro
  have hfar : far = 1000000000 := rfl
  have loop : ∀ (m n : Nat) (l4 l5 : Value), n + m = N → Wp d M_X6_goRound 21 [.ref 167, .int (i32 (rdI (σ 601 167) (σ 602 167) (σ 605 167 0) (σ 603 167) n).2.2.2.1), .int (i32 (if (rdI (σ 601 167) (σ 602 167) (σ 605 167 0) (σ 603 167) n).2.2.2.2 then 1 else 0)), .int (i32 n), l4, l5] [] (E T (rgS σ (rdI (σ 601 167) (σ 602 167) (σ 605 167 0) (σ 603 167) n).1 (rdI (σ 601 167) (σ 602 167) (σ 605 167 0) (σ 603 167) n).2.1 (rdI (σ 601 167) (σ 602 167) (σ 605 167 0) (σ 603 167) n).2.2.1)) Q = Q (.inl none) (E T (rgS σ (rdI (σ 601 167) (σ 602 167) (σ 605 167 0) (σ 603 167) N).1 (rdI (σ 601 167) (σ 602 167) (σ 605 167 0) (σ 603 167) N).2.1 (rdI (σ 601 167) (σ 602 167) (σ 605 167 0) (σ 603 167) N).2.2.1)) := by
    intro m
    induction m with
    | zero =>
      intro n l4 l5 hn2
      have hn2 : n = N := by omega
      subst hn2
      rw [w69_21]
      simp (disch := (first | assumption | omega | exact Nat.le_of_ble_eq_true rfl | rfl)) only [w69_0, w69_1, w69_2, w69_5, w69_6, w69_7, w69_10, w69_11, w69_12, w69_15, w69_16, w69_17, w69_18, w69_19, w69_20, w69_22, w69_23, w69_26, w69_29, w69_30, w69_33, w69_34, w69_35, w69_37, w69_38, w69_41, w69_42, w69_43, w69_44, w69_46, w69_47, w69_48, w69_50, w69_51, w69_54, w69_56, w69_58, w69_61, w69_62, w69_65, w69_66, w69_67, w69_68, w69_71, w69_72, w69_73, w69_76, w69_78, w69_79, w69_82, w69_84, w69_85, w69_86, w69_87, w69_88, w69_91, w69_92, w69_95, w69_96, w69_99, w69_100, w69_101, w69_104, w69_106, w69_107, w69_110, w69_111, w69_112, w69_115, w69_116, w69_117, w69_120, w69_121, w69_124, w69_125, w69_128, w69_129, w69_131, w69_134, w69_137, w69_140, Ko_n, Ko_v, vX_i, vX_r, vX_l, vX_j, reduceIte, rgt, hn, Int.le_refl]
    | succ m ih =>
      intro n l4 l5 hn2
      have ih' := fun l4 l5 => ih (n + 1) l4 l5 (by omega)
      rw [show rdI (σ 601 167) (σ 602 167) (σ 605 167 0) (σ 603 167) (n + 1) = rdS1 (σ 601 167) (σ 602 167) (σ 605 167 0) (σ 603 167 n) (rdI (σ 601 167) (σ 602 167) (σ 605 167 0) (σ 603 167) n) from rfl] at ih'
      obtain ⟨i1, i2, i3, i4, i5, i6, i7, i8⟩ := rdI_in (du := σ 602 167) (st := σ 605 167 0) hl hN ho n (by omega)
      have hon := ho n (by omega)
      have hdn := hd (σ 603 167 n) (by omega) (by omega)
      have hlg := hl (rdI (σ 601 167) (σ 602 167) (σ 605 167 0) (σ 603 167) n).2.2.2.1 (σ 603 167 n) (by omega) (by omega) (by omega) (by omega)
      unfold rdS1 at ih'
      generalize rdI (σ 601 167) (σ 602 167) (σ 605 167 0) (σ 603 167) n = x at *
      obtain ⟨c, l, f, r, kk⟩ := x
      dsimp only at *
      rw [w69_21]
      have hst : (kk || decide (far ≤ σ 601 167 (4 * r + σ 603 167 n))) = true ∨ (kk || decide (far ≤ σ 601 167 (4 * r + σ 603 167 n))) = false := by cases (kk || decide (far ≤ σ 601 167 (4 * r + σ 603 167 n))) <;> simp
      rcases hst with hst | hst
      · rw [hst] at ih'
        simp only [if_true, true_or] at ih'
        have hsk : ∀ (A B : Prop), (if ¬ (if kk = true then (1 : Int) else 0) = 0 then A else if σ 601 167 (4 * r + σ 603 167 n) < 1000000000 then B else A) = A := by
          intro A B
          cases kk with
          | true => simp
          | false =>
            have : far ≤ σ 601 167 (4 * r + σ 603 167 n) := by simpa using hst
            simp [show ¬ σ 601 167 (4 * r + σ 603 167 n) < 1000000000 by omega]
        have hb := b01 kk
        by_cases hf : f = -1
        · rw [if_pos hf] at ih'
          cases kk with
          | true =>
            simp (disch := (first | assumption | omega | exact Nat.le_of_ble_eq_true rfl | rfl)) only [w69_0, w69_1, w69_2, w69_5, w69_6, w69_7, w69_10, w69_11, w69_12, w69_15, w69_16, w69_17, w69_18, w69_19, w69_20, w69_22, w69_23, w69_26, w69_29, w69_30, w69_33, w69_34, w69_35, w69_37, w69_38, w69_41, w69_42, w69_43, w69_44, w69_46, w69_47, w69_48, w69_50, w69_51, w69_54, w69_56, w69_58, w69_61, w69_62, w69_65, w69_66, w69_67, w69_68, w69_71, w69_72, w69_73, w69_76, w69_78, w69_79, w69_82, w69_84, w69_85, w69_86, w69_87, w69_88, w69_91, w69_92, w69_95, w69_96, w69_99, w69_100, w69_101, w69_104, w69_106, w69_107, w69_110, w69_111, w69_112, w69_115, w69_116, w69_117, w69_120, w69_121, w69_124, w69_125, w69_128, w69_129, w69_131, w69_134, w69_137, w69_140, Ko_n, Ko_v, vX_i, vX_r, vX_l, vX_j, reduceIte, rgt, rg6, rg7, rg8, ru6, ru7, ru8, hn, show ¬ (N : Int) ≤ (n : Int) by omega, Int.reduceEq, not_false_eq_true, hf, not_true]
            exact ih' _ _
          | false =>
            have hx : far ≤ σ 601 167 (4 * r + σ 603 167 n) := by simpa using hst
            simp (disch := (first | assumption | omega | exact Nat.le_of_ble_eq_true rfl | rfl)) only [w69_0, w69_1, w69_2, w69_5, w69_6, w69_7, w69_10, w69_11, w69_12, w69_15, w69_16, w69_17, w69_18, w69_19, w69_20, w69_22, w69_23, w69_26, w69_29, w69_30, w69_33, w69_34, w69_35, w69_37, w69_38, w69_41, w69_42, w69_43, w69_44, w69_46, w69_47, w69_48, w69_50, w69_51, w69_54, w69_56, w69_58, w69_61, w69_62, w69_65, w69_66, w69_67, w69_68, w69_71, w69_72, w69_73, w69_76, w69_78, w69_79, w69_82, w69_84, w69_85, w69_86, w69_87, w69_88, w69_91, w69_92, w69_95, w69_96, w69_99, w69_100, w69_101, w69_104, w69_106, w69_107, w69_110, w69_111, w69_112, w69_115, w69_116, w69_117, w69_120, w69_121, w69_124, w69_125, w69_128, w69_129, w69_131, w69_134, w69_137, w69_140, Ko_n, Ko_v, vX_i, vX_r, vX_l, vX_j, reduceIte, rgt, rg6, rg7, rg8, ru6, ru7, ru8, hn, show ¬ (N : Int) ≤ (n : Int) by omega, Int.reduceEq, not_false_eq_true, hf, not_true, Bool.false_eq_true, show ¬ σ 601 167 (4 * r + σ 603 167 n) < 1000000000 by omega]
            exact ih' _ _
        · rw [if_neg hf] at ih'
          cases kk with
          | true =>
            simp (disch := (first | assumption | omega | exact Nat.le_of_ble_eq_true rfl | rfl)) only [w69_0, w69_1, w69_2, w69_5, w69_6, w69_7, w69_10, w69_11, w69_12, w69_15, w69_16, w69_17, w69_18, w69_19, w69_20, w69_22, w69_23, w69_26, w69_29, w69_30, w69_33, w69_34, w69_35, w69_37, w69_38, w69_41, w69_42, w69_43, w69_44, w69_46, w69_47, w69_48, w69_50, w69_51, w69_54, w69_56, w69_58, w69_61, w69_62, w69_65, w69_66, w69_67, w69_68, w69_71, w69_72, w69_73, w69_76, w69_78, w69_79, w69_82, w69_84, w69_85, w69_86, w69_87, w69_88, w69_91, w69_92, w69_95, w69_96, w69_99, w69_100, w69_101, w69_104, w69_106, w69_107, w69_110, w69_111, w69_112, w69_115, w69_116, w69_117, w69_120, w69_121, w69_124, w69_125, w69_128, w69_129, w69_131, w69_134, w69_137, w69_140, Ko_n, Ko_v, vX_i, vX_r, vX_l, vX_j, reduceIte, rgt, rg6, rg7, rg8, ru6, ru7, ru8, hn, show ¬ (N : Int) ≤ (n : Int) by omega, Int.reduceEq, not_false_eq_true, hf, not_true]
            exact ih' _ _
          | false =>
            have hx : far ≤ σ 601 167 (4 * r + σ 603 167 n) := by simpa using hst
            simp (disch := (first | assumption | omega | exact Nat.le_of_ble_eq_true rfl | rfl)) only [w69_0, w69_1, w69_2, w69_5, w69_6, w69_7, w69_10, w69_11, w69_12, w69_15, w69_16, w69_17, w69_18, w69_19, w69_20, w69_22, w69_23, w69_26, w69_29, w69_30, w69_33, w69_34, w69_35, w69_37, w69_38, w69_41, w69_42, w69_43, w69_44, w69_46, w69_47, w69_48, w69_50, w69_51, w69_54, w69_56, w69_58, w69_61, w69_62, w69_65, w69_66, w69_67, w69_68, w69_71, w69_72, w69_73, w69_76, w69_78, w69_79, w69_82, w69_84, w69_85, w69_86, w69_87, w69_88, w69_91, w69_92, w69_95, w69_96, w69_99, w69_100, w69_101, w69_104, w69_106, w69_107, w69_110, w69_111, w69_112, w69_115, w69_116, w69_117, w69_120, w69_121, w69_124, w69_125, w69_128, w69_129, w69_131, w69_134, w69_137, w69_140, Ko_n, Ko_v, vX_i, vX_r, vX_l, vX_j, reduceIte, rgt, rg6, rg7, rg8, ru6, ru7, ru8, hn, show ¬ (N : Int) ≤ (n : Int) by omega, Int.reduceEq, not_false_eq_true, hf, not_true, Bool.false_eq_true, show ¬ σ 601 167 (4 * r + σ 603 167 n) < 1000000000 by omega]
            exact ih' _ _
      · rw [hst] at ih'
        rw [Bool.or_eq_false_iff] at hst
        have hx := of_decide_eq_false hst.2
        rw [hst.1]
        simp only [Bool.false_eq_true, if_false, false_or] at ih'
        by_cases hl2 : σ 602 167 (σ 603 167 n) < σ 605 167 0 + (c + σ 601 167 (4 * r + σ 603 167 n))
        · rw [if_pos hl2] at ih'
          by_cases hf : f = -1
          · rw [if_pos hf] at ih'
            simp (disch := (first | assumption | omega | exact Nat.le_of_ble_eq_true rfl | rfl)) only [w69_0, w69_1, w69_2, w69_5, w69_6, w69_7, w69_10, w69_11, w69_12, w69_15, w69_16, w69_17, w69_18, w69_19, w69_20, w69_22, w69_23, w69_26, w69_29, w69_30, w69_33, w69_34, w69_35, w69_37, w69_38, w69_41, w69_42, w69_43, w69_44, w69_46, w69_47, w69_48, w69_50, w69_51, w69_54, w69_56, w69_58, w69_61, w69_62, w69_65, w69_66, w69_67, w69_68, w69_71, w69_72, w69_73, w69_76, w69_78, w69_79, w69_82, w69_84, w69_85, w69_86, w69_87, w69_88, w69_91, w69_92, w69_95, w69_96, w69_99, w69_100, w69_101, w69_104, w69_106, w69_107, w69_110, w69_111, w69_112, w69_115, w69_116, w69_117, w69_120, w69_121, w69_124, w69_125, w69_128, w69_129, w69_131, w69_134, w69_137, w69_140, Ko_n, Ko_v, vX_i, vX_r, vX_l, vX_j, reduceIte, rgt, rg6, rg7, rg8, ru6, ru7, ru8, hn, show ¬ (N : Int) ≤ (n : Int) by omega, Int.reduceEq, not_false_eq_true, hf, not_true, Bool.false_eq_true, show σ 601 167 (4 * r + σ 603 167 n) < 1000000000 by omega, show ¬ σ 605 167 0 + (c + σ 601 167 (4 * r + σ 603 167 n)) ≤ σ 602 167 (σ 603 167 n) by omega]
            exact ih' _ _
          · rw [if_neg hf] at ih'
            simp (disch := (first | assumption | omega | exact Nat.le_of_ble_eq_true rfl | rfl)) only [w69_0, w69_1, w69_2, w69_5, w69_6, w69_7, w69_10, w69_11, w69_12, w69_15, w69_16, w69_17, w69_18, w69_19, w69_20, w69_22, w69_23, w69_26, w69_29, w69_30, w69_33, w69_34, w69_35, w69_37, w69_38, w69_41, w69_42, w69_43, w69_44, w69_46, w69_47, w69_48, w69_50, w69_51, w69_54, w69_56, w69_58, w69_61, w69_62, w69_65, w69_66, w69_67, w69_68, w69_71, w69_72, w69_73, w69_76, w69_78, w69_79, w69_82, w69_84, w69_85, w69_86, w69_87, w69_88, w69_91, w69_92, w69_95, w69_96, w69_99, w69_100, w69_101, w69_104, w69_106, w69_107, w69_110, w69_111, w69_112, w69_115, w69_116, w69_117, w69_120, w69_121, w69_124, w69_125, w69_128, w69_129, w69_131, w69_134, w69_137, w69_140, Ko_n, Ko_v, vX_i, vX_r, vX_l, vX_j, reduceIte, rgt, rg6, rg7, rg8, ru6, ru7, ru8, hn, show ¬ (N : Int) ≤ (n : Int) by omega, Int.reduceEq, not_false_eq_true, hf, not_true, Bool.false_eq_true, show σ 601 167 (4 * r + σ 603 167 n) < 1000000000 by omega, show ¬ σ 605 167 0 + (c + σ 601 167 (4 * r + σ 603 167 n)) ≤ σ 602 167 (σ 603 167 n) by omega]
            exact ih' _ _
        · rw [if_neg hl2] at ih'
          simp (disch := (first | assumption | omega | exact Nat.le_of_ble_eq_true rfl | rfl)) only [w69_0, w69_1, w69_2, w69_5, w69_6, w69_7, w69_10, w69_11, w69_12, w69_15, w69_16, w69_17, w69_18, w69_19, w69_20, w69_22, w69_23, w69_26, w69_29, w69_30, w69_33, w69_34, w69_35, w69_37, w69_38, w69_41, w69_42, w69_43, w69_44, w69_46, w69_47, w69_48, w69_50, w69_51, w69_54, w69_56, w69_58, w69_61, w69_62, w69_65, w69_66, w69_67, w69_68, w69_71, w69_72, w69_73, w69_76, w69_78, w69_79, w69_82, w69_84, w69_85, w69_86, w69_87, w69_88, w69_91, w69_92, w69_95, w69_96, w69_99, w69_100, w69_101, w69_104, w69_106, w69_107, w69_110, w69_111, w69_112, w69_115, w69_116, w69_117, w69_120, w69_121, w69_124, w69_125, w69_128, w69_129, w69_131, w69_134, w69_137, w69_140, Ko_n, Ko_v, vX_i, vX_r, vX_l, vX_j, reduceIte, rgt, rg6, rg7, rg8, ru6, ru7, ru8, hn, show ¬ (N : Int) ≤ (n : Int) by omega, Int.reduceEq, not_false_eq_true, not_true, Bool.false_eq_true, show σ 601 167 (4 * r + σ 603 167 n) < 1000000000 by omega, show σ 605 167 0 + (c + σ 601 167 (4 * r + σ 603 167 n)) ≤ σ 602 167 (σ 603 167 n) by omega]
          exact ih' _ _
  rw [n69 _ _ _ _ _ _ hr]
  simp (disch := (first | assumption | omega | exact Nat.le_of_ble_eq_true rfl | rfl)) only [w69_0, w69_1, w69_2, w69_5, w69_6, w69_7, w69_10, w69_11, w69_12, w69_15, w69_16, w69_17, w69_18, w69_19, w69_20, w69_22, w69_23, w69_26, w69_29, w69_30, w69_33, w69_34, w69_35, w69_37, w69_38, w69_41, w69_42, w69_43, w69_44, w69_46, w69_47, w69_48, w69_50, w69_51, w69_54, w69_56, w69_58, w69_61, w69_62, w69_65, w69_66, w69_67, w69_68, w69_71, w69_72, w69_73, w69_76, w69_78, w69_79, w69_82, w69_84, w69_85, w69_86, w69_87, w69_88, w69_91, w69_92, w69_95, w69_96, w69_99, w69_100, w69_101, w69_104, w69_106, w69_107, w69_110, w69_111, w69_112, w69_115, w69_116, w69_117, w69_120, w69_121, w69_124, w69_125, w69_128, w69_129, w69_131, w69_134, w69_137, w69_140, Ko_n, Ko_v, vX_i, vX_r, vX_l, vX_j, reduceIte]
  exact loop N 0 _ _ (by omega)
