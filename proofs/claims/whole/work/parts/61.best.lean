/-! ===== Rounds: the best order ===== -/
/-- an order by a number's digits -/
def ordN (N : Nat) (row : Int) : Int → Int := fun i => dgt N row (N - 1 - i).toNat
theorem odI_at {N : Nat} {row : Int} {g : Int → Int} (j : Nat) (hj : j ≤ N) {i : Int} (i0 : (N : Int) - j ≤ i) (i1 : i < N) : odI N row g j i = ordN N row i := by
  induction j with
  | zero => omega
  | succ j ih =>
    simp only [odI]
    by_cases hi : i = (N : Int) - (j + 1)
    · rw [hi, fu_s]
      unfold ordN
      rw [show ((N : Int) - 1 - ((N : Int) - (j + 1))).toNat = j by omega]
    · rw [fu_n hi]
      exact ih (by omega) (by omega)
theorem rdI_congr {lg du o o' : Int → Int} {st : Int} {N : Nat} (h : ∀ i : Nat, i < N → o i = o' i) (n : Nat) : n ≤ N → rdI lg du st o n = rdI lg du st o' n := by
  induction n with
  | zero => intro _; rfl
  | succ n ih =>
    intro hn
    simp only [rdI]
    rw [ih (by omega), h n (by omega)]
abbrev Bo : Type := Int × Int × (Int → Int)
/-- the best so far: how many late, its cost, the order -/
def boS (lg du : Int → Int) (st : Int) (N : Nat) (row : Int) (x : Bo) : Bo := if snI N row N = sl 1 N - 1 ∧ ((rdI lg du st (ordN N row) N).2.1 < x.1 ∨ ((rdI lg du st (ordN N row) N).2.1 = x.1 ∧ (rdI lg du st (ordN N row) N).1 < x.2.1)) then ((rdI lg du st (ordN N row) N).2.1, (rdI lg du st (ordN N row) N).1, ordN N row) else x
def boI (lg du : Int → Int) (st : Int) (N : Nat) : Nat → Bo
  | 0 => (N + 1, far, fun _ => 0)
  | n + 1 => boS lg du st N n (boI lg du st N n)
def bbS (σ : St) (O B : Int → Int) (c l f bl bc : Int) : St := upA (upA (upA (rgS (upA σ 603 167 O) c l f) 609 167 B) 610 167 fun _ => bc) 611 167 fun _ => bl
theorem bb3 {σ : St} {O B : Int → Int} {c l f bl bc : Int} : bbS σ O B c l f bl bc 603 167 = O := by unfold bbS; simp (disch := omega) only [upA_t, rgt, upA_s]
theorem bb9 {σ : St} {O B : Int → Int} {c l f bl bc : Int} : bbS σ O B c l f bl bc 609 167 = B := by unfold bbS; simp (disch := omega) only [upA_t, upA_s]
theorem bb10 {σ : St} {O B : Int → Int} {c l f bl bc : Int} : bbS σ O B c l f bl bc 610 167 = fun _ => bc := by unfold bbS; simp (disch := omega) only [upA_t, upA_s]
theorem bb11 {σ : St} {O B : Int → Int} {c l f bl bc : Int} : bbS σ O B c l f bl bc 611 167 = fun _ => bl := by unfold bbS; simp (disch := omega) only [upA_s]
theorem bb6 {σ : St} {O B : Int → Int} {c l f bl bc : Int} : bbS σ O B c l f bl bc 606 167 = fun _ => c := by unfold bbS; simp (disch := omega) only [upA_t, rg6]
theorem bb7 {σ : St} {O B : Int → Int} {c l f bl bc : Int} : bbS σ O B c l f bl bc 607 167 = fun _ => l := by unfold bbS; simp (disch := omega) only [upA_t, rg7]
theorem bbt {σ : St} {O B : Int → Int} {c l f bl bc : Int} {t o : Nat} (h : t < 603 ∨ t = 604 ∨ t = 605 ∨ 611 < t) : bbS σ O B c l f bl bc t o = σ t o := by unfold bbS; simp (disch := omega) only [upA_t, rgt]
theorem bu3 {σ : St} {O O' B : Int → Int} {c l f bl bc : Int} : upA (bbS σ O B c l f bl bc) 603 167 O' = bbS σ O' B c l f bl bc := by
  unfold bbS rgS
  rw [upA_comm (t := 611) (t' := 603) (by omega), upA_comm (t := 610) (t' := 603) (by omega), upA_comm (t := 609) (t' := 603) (by omega), upA_comm (t := 608) (t' := 603) (by omega), upA_comm (t := 607) (t' := 603) (by omega), upA_comm (t := 606) (t' := 603) (by omega), upA_upA]
theorem bu9 {σ : St} {O B B' : Int → Int} {c l f bl bc : Int} : upA (bbS σ O B c l f bl bc) 609 167 B' = bbS σ O B' c l f bl bc := by
  unfold bbS
  rw [upA_comm (t := 611) (t' := 609) (by omega), upA_comm (t := 610) (t' := 609) (by omega), upA_upA]
theorem bu10 {σ : St} {O B : Int → Int} {c l f bl bc v : Int} : upA (bbS σ O B c l f bl bc) 610 167 (fun _ => v) = bbS σ O B c l f bl v := by
  unfold bbS
  rw [upA_comm (t := 611) (t' := 610) (by omega), upA_upA]
theorem bu11 {σ : St} {O B : Int → Int} {c l f bl bc v : Int} : upA (bbS σ O B c l f bl bc) 611 167 (fun _ => v) = bbS σ O B c l f v bc := by
  unfold bbS
  rw [upA_upA]
theorem bug {σ : St} {O B : Int → Int} {c l f bl bc c' l' f' : Int} : rgS (bbS σ O B c l f bl bc) c' l' f' = bbS σ O B c' l' f' bl bc := by
  unfold bbS rgS
  rw [upA_comm (t := 611) (t' := 606) (by omega), upA_comm (t := 610) (t' := 606) (by omega), upA_comm (t := 609) (t' := 606) (by omega), upA_comm (t := 608) (t' := 606) (by omega), upA_comm (t := 607) (t' := 606) (by omega), upA_upA,
    upA_comm (t := 611) (t' := 607) (by omega), upA_comm (t := 610) (t' := 607) (by omega), upA_comm (t := 609) (t' := 607) (by omega), upA_comm (t := 608) (t' := 607) (by omega), upA_upA,
    upA_comm (t := 611) (t' := 608) (by omega), upA_comm (t := 610) (t' := 608) (by omega), upA_comm (t := 609) (t' := 608) (by omega), upA_upA]
theorem bb_init {T : Tt} {σ : St} {bl bc : Int} : E T (bbS σ (σ 603 167) (σ 609 167) (σ 606 167 0) (σ 607 167 0) (σ 608 167 0) bl bc) = E T (upA (upA σ 611 167 fun _ => bl) 610 167 fun _ => bc) := by
  have hr := ob_ro
  have e1 : bbS σ (σ 603 167) (σ 609 167) (σ 606 167 0) (σ 607 167 0) (σ 608 167 0) bl bc = upA (upA (upA (upA (upA σ 611 167 fun _ => bl) 610 167 fun _ => bc) 606 167 fun _ => σ 606 167 0) 607 167 fun _ => σ 607 167 0) 608 167 fun _ => σ 608 167 0 := by
    unfold bbS rgS
    rw [upA_self]
    have e9 : upA (upA (upA (upA σ 606 167 fun _ => σ 606 167 0) 607 167 fun _ => σ 607 167 0) 608 167 fun _ => σ 608 167 0) 609 167 (σ 609 167) = upA (upA (upA σ 606 167 fun _ => σ 606 167 0) 607 167 fun _ => σ 607 167 0) 608 167 fun _ => σ 608 167 0 := by
      rw [upA_comm (t := 608) (t' := 609) (by omega), upA_comm (t := 607) (t' := 609) (by omega), upA_comm (t := 606) (t' := 609) (by omega), upA_self]
    rw [e9]
    funext t o
    unfold upA
    by_cases h11 : t = 611 ∧ o = 167
    · obtain ⟨rfl, rfl⟩ := h11; simp
    · by_cases h10 : t = 610 ∧ o = 167
      · obtain ⟨rfl, rfl⟩ := h10; simp
      · by_cases h8 : t = 608 ∧ o = 167
        · obtain ⟨rfl, rfl⟩ := h8; simp
        · by_cases h7 : t = 607 ∧ o = 167
          · obtain ⟨rfl, rfl⟩ := h7; simp
          · by_cases h6 : t = 606 ∧ o = 167
            · obtain ⟨rfl, rfl⟩ := h6; simp
            · rw [if_neg h11, if_neg h10, if_neg h8, if_neg h7, if_neg h6, if_neg h8, if_neg h7, if_neg h6, if_neg h10, if_neg h11]
  rw [e1]
  have a8 := E_same (T := T) (σ := upA (upA (upA (upA σ 611 167 fun _ => bl) 610 167 fun _ => bc) 606 167 fun _ => σ 606 167 0) 607 167 fun _ => σ 607 167 0) (c := 8) (tag := 608) (k := 0) hr rfl (by omega)
  have a7 := E_same (T := T) (σ := upA (upA (upA σ 611 167 fun _ => bl) 610 167 fun _ => bc) 606 167 fun _ => σ 606 167 0) (c := 7) (tag := 607) (k := 0) hr rfl (by omega)
  have a6 := E_same (T := T) (σ := upA (upA σ 611 167 fun _ => bl) 610 167 fun _ => bc) (c := 6) (tag := 606) (k := 0) hr rfl (by omega)
  simp (disch := omega) only [upA_t] at a8 a7 a6
  rw [a8, a7, a6]
theorem boI_in {lg du : Int → Int} {st : Int} {N : Nat} (hl : lgOk N lg) (hN : N ≤ 4) (n : Nat) : 0 ≤ (boI lg du st N n).1 ∧ (boI lg du st N n).1 ≤ 5 ∧ 0 ≤ (boI lg du st N n).2.1 ∧ (boI lg du st N n).2.1 ≤ far := by
  have hfar : far = 1000000000 := rfl
  induction n with
  | zero => simp only [boI]; omega
  | succ n ih =>
    simp only [boI]
    unfold boS
    have hr := rdI_in (du := du) (st := st) hl hN (o := ordN N n) (fun i hi => by
      unfold ordN
      exact dgt_in (by omega)) N (Nat.le_refl _)
    split
    · refine ⟨hr.2.2.1, ?_, hr.1, ?_⟩
      · show (rdI lg du st (ordN N n) N).2.1 ≤ 5; omega
      · show (rdI lg du st (ordN N n) N).1 ≤ far; omega
    · exact ih
theorem c70 {d N : Nat} {k : Int} {T : Tt} {σ : St} {Q : vmO → vmH → Prop} (hn : σ 604 167 0 = N) (hN : N ≤ 4) (hl : lgOk N (σ 601 167)) (hd : ∀ j, 0 ≤ j → j < (N : Int) → 0 ≤ σ 602 167 j ∧ σ 602 167 j ≤ 999) (s0 : 0 ≤ σ 605 167 0) (s1 : σ 605 167 0 < 1000000000)
    (hQ : ∀ O B c l f, ((boI (σ 601 167) (σ 602 167) (σ 605 167 0) N (N ^ N)).1 ≤ N → ∀ i : Nat, i < N → B i = (boI (σ 601 167) (σ 602 167) (σ 605 167 0) N (N ^ N)).2.2 i) → Q (.inl none) (E T (bbS σ O B c l f (boI (σ 601 167) (σ 602 167) (σ 605 167 0) N (N ^ N)).1 (boI (σ 601 167) (σ 602 167) (σ 605 167 0) N (N ^ N)).2.1))) : Ca (d + 1) k 70 [.ref 167] (E T σ) Q := by
  have hr := ob_ro
  have hfar : far = 1000000000 := rfl
  have hpw : N ^ N ≤ 256 := by
    have : ∀ n : Fin 5, n.val ^ n.val ≤ 256 := by decide
    exact this ⟨N, by omega⟩
  have loop2 : ∀ (m n : Nat) (O B : Int → Int) (c l f : Int), n + m = N ^ N → ((boI (σ 601 167) (σ 602 167) (σ 605 167 0) N n).1 ≤ N → ∀ i : Nat, i < N → B i = (boI (σ 601 167) (σ 602 167) (σ 605 167 0) N n).2.2 i) → Wp (d + 1) M_X6_inBestOrder 43 [.ref 167, .int (i32 ((N ^ N : Nat) : Int)), .int (i32 n)] [] (E T (bbS σ O B c l f (boI (σ 601 167) (σ 602 167) (σ 605 167 0) N n).1 (boI (σ 601 167) (σ 602 167) (σ 605 167 0) N n).2.1)) Q := by
    intro m
    induction m with
    | zero =>
      intro n O B c l f hm hB
      have hm : n = N ^ N := by omega
      subst hm
      rw [w70_43]
      simp (disch := (first | assumption | omega | exact Nat.le_of_ble_eq_true rfl | rfl)) only [w70_0, w70_1, w70_2, w70_5, w70_6, w70_7, w70_10, w70_11, w70_13, w70_16, w70_17, w70_18, w70_19, w70_21, w70_22, w70_25, w70_28, w70_29, w70_30, w70_33, w70_34, w70_35, w70_38, w70_41, w70_42, w70_44, w70_45, w70_48, w70_49, w70_50, w70_53, w70_56, w70_57, w70_60, w70_61, w70_64, w70_65, w70_68, w70_71, w70_72, w70_75, w70_76, w70_79, w70_82, w70_83, w70_86, w70_87, w70_90, w70_93, w70_94, w70_95, w70_98, w70_101, w70_102, w70_103, w70_106, w70_109, w70_110, w70_113, w70_114, w70_115, w70_118, w70_119, w70_120, w70_123, w70_126, w70_129, Ko_n, Ko_v, vX_i, vX_r, vX_l, vX_j, reduceIte, Int.le_refl]
      exact hQ O B c l f hB
    | succ m ih =>
      intro n O B c l f hm hB
      have hbi := boI_in (du := σ 602 167) (st := σ 605 167 0) hl hN n
      have hoa : ∀ i : Nat, i < N → odI N n O N i = ordN N n i := fun i hi => odI_at N (Nat.le_refl _) (by omega) (by omega)
      have hrc : rdI (σ 601 167) (σ 602 167) (σ 605 167 0) (odI N n O N) N = rdI (σ 601 167) (σ 602 167) (σ 605 167 0) (ordN N n) N := rdI_congr hoa N (Nat.le_refl _)
      have hri := rdI_in (du := σ 602 167) (st := σ 605 167 0) hl hN (o := ordN N n) (fun i hi => by
        unfold ordN
        exact dgt_in (by omega)) N (Nat.le_refl _)
      have ih' := fun O B c l f => ih (n + 1) O B c l f (by omega)
      rw [show boI (σ 601 167) (σ 602 167) (σ 605 167 0) N (n + 1) = boS (σ 601 167) (σ 602 167) (σ 605 167 0) N n (boI (σ 601 167) (σ 602 167) (σ 605 167 0) N n) from rfl] at ih'
      unfold boS at ih'
      rw [w70_43]
      simp (disch := (first | assumption | omega | exact Nat.le_of_ble_eq_true rfl | rfl)) only [w70_0, w70_1, w70_2, w70_5, w70_6, w70_7, w70_10, w70_11, w70_13, w70_16, w70_17, w70_18, w70_19, w70_21, w70_22, w70_25, w70_28, w70_29, w70_30, w70_33, w70_34, w70_35, w70_38, w70_41, w70_42, w70_44, w70_45, w70_48, w70_49, w70_50, w70_53, w70_56, w70_57, w70_60, w70_61, w70_64, w70_65, w70_68, w70_71, w70_72, w70_75, w70_76, w70_79, w70_82, w70_83, w70_86, w70_87, w70_90, w70_93, w70_94, w70_95, w70_98, w70_101, w70_102, w70_103, w70_106, w70_109, w70_110, w70_113, w70_114, w70_115, w70_118, w70_119, w70_120, w70_123, w70_126, w70_129, Ko_n, Ko_v, vX_i, vX_r, vX_l, vX_j, reduceIte, show ¬ ((N ^ N : Nat) : Int) ≤ (n : Int) by omega]
      rw [c71 (N := N) (by rw [bbt (by omega)]; exact hn) hN (by omega) (by omega), bb3, bu3]
      by_cases hok : snI N n N = sl 1 N - 1
      · rw [if_pos hok]
        simp (disch := (first | assumption | omega | exact Nat.le_of_ble_eq_true rfl | rfl)) only [w70_0, w70_1, w70_2, w70_5, w70_6, w70_7, w70_10, w70_11, w70_13, w70_16, w70_17, w70_18, w70_19, w70_21, w70_22, w70_25, w70_28, w70_29, w70_30, w70_33, w70_34, w70_35, w70_38, w70_41, w70_42, w70_44, w70_45, w70_48, w70_49, w70_50, w70_53, w70_56, w70_57, w70_60, w70_61, w70_64, w70_65, w70_68, w70_71, w70_72, w70_75, w70_76, w70_79, w70_82, w70_83, w70_86, w70_87, w70_90, w70_93, w70_94, w70_95, w70_98, w70_101, w70_102, w70_103, w70_106, w70_109, w70_110, w70_113, w70_114, w70_115, w70_118, w70_119, w70_120, w70_123, w70_126, w70_129, Ko_n, Ko_v, vX_i, vX_r, vX_l, vX_j, reduceIte, Int.reduceEq]
        rw [c69 (N := N) (by rw [bbt (by omega)]; exact hn) hN (by
          intro i hi
          rw [bb3, hoa i hi]
          unfold ordN
          exact dgt_in (by omega)) (by rw [bbt (by omega)]; exact hl) (by rw [bbt (by omega)]; exact hd) (by rw [bbt (by omega)]; exact s0) (by rw [bbt (by omega)]; exact s1)]
        rw [bbt (by omega), bbt (by omega), bbt (by omega), bb3, hrc, bug]
        by_cases hb : (rdI (σ 601 167) (σ 602 167) (σ 605 167 0) (ordN N n) N).2.1 < (boI (σ 601 167) (σ 602 167) (σ 605 167 0) N n).1 ∨ ((rdI (σ 601 167) (σ 602 167) (σ 605 167 0) (ordN N n) N).2.1 = (boI (σ 601 167) (σ 602 167) (σ 605 167 0) N n).1 ∧ (rdI (σ 601 167) (σ 602 167) (σ 605 167 0) (ordN N n) N).1 < (boI (σ 601 167) (σ 602 167) (σ 605 167 0) N n).2.1)
        · rw [if_pos ⟨hok, hb⟩] at ih'
          have hgo : Wp (d + 1) M_X6_inBestOrder 93 [.ref 167, .int (i32 ((N ^ N : Nat) : Int)), .int (i32 n)] [] (E T (bbS σ (odI N n O N) B (rdI (σ 601 167) (σ 602 167) (σ 605 167 0) (ordN N n) N).1 (rdI (σ 601 167) (σ 602 167) (σ 605 167 0) (ordN N n) N).2.1 (rdI (σ 601 167) (σ 602 167) (σ 605 167 0) (ordN N n) N).2.2.1 (boI (σ 601 167) (σ 602 167) (σ 605 167 0) N n).1 (boI (σ 601 167) (σ 602 167) (σ 605 167 0) N n).2.1)) Q := by
            simp (disch := (first | assumption | omega | exact Nat.le_of_ble_eq_true rfl | rfl)) only [w70_0, w70_1, w70_2, w70_5, w70_6, w70_7, w70_10, w70_11, w70_13, w70_16, w70_17, w70_18, w70_19, w70_21, w70_22, w70_25, w70_28, w70_29, w70_30, w70_33, w70_34, w70_35, w70_38, w70_41, w70_42, w70_44, w70_45, w70_48, w70_49, w70_50, w70_53, w70_56, w70_57, w70_60, w70_61, w70_64, w70_65, w70_68, w70_71, w70_72, w70_75, w70_76, w70_79, w70_82, w70_83, w70_86, w70_87, w70_90, w70_93, w70_94, w70_95, w70_98, w70_101, w70_102, w70_103, w70_106, w70_109, w70_110, w70_113, w70_114, w70_115, w70_118, w70_119, w70_120, w70_123, w70_126, w70_129, Ko_n, Ko_v, vX_i, vX_r, vX_l, vX_j, reduceIte, bb6, bb7, bu10, bu11, bb3, bb9, bu9]
            exact ih' _ _ _ _ _ (fun _ i hi => by
              rw [cp_lt (by omega) (by show (i : Int) < ((4 : Int)); omega)]
              exact hoa i hi)
          by_cases h1 : (rdI (σ 601 167) (σ 602 167) (σ 605 167 0) (ordN N n) N).2.1 < (boI (σ 601 167) (σ 602 167) (σ 605 167 0) N n).1
          · simp (disch := (first | assumption | omega | exact Nat.le_of_ble_eq_true rfl | rfl)) only [Ko_n, w70_60, w70_61, w70_64, w70_65, w70_68, bb7, bb11, h1, if_true]
            exact hgo
          · have h2 := hb.resolve_left h1
            simp (disch := (first | assumption | omega | exact Nat.le_of_ble_eq_true rfl | rfl)) only [Ko_n, w70_60, w70_61, w70_64, w70_65, w70_68, w70_71, w70_72, w70_75, w70_76, w70_79, w70_82, w70_83, w70_86, w70_87, w70_90, bb6, bb10, bb7, bb11, h1, h2.1, if_false, not_true, show ¬ (boI (σ 601 167) (σ 602 167) (σ 605 167 0) N n).2.1 ≤ (rdI (σ 601 167) (σ 602 167) (σ 605 167 0) (ordN N n) N).1 by omega, Int.lt_irrefl]
            rw [h2.1] at hgo
            exact hgo
        · rw [if_neg (fun w => hb w.2)] at ih'
          have hgo : Wp (d + 1) M_X6_inBestOrder 123 [.ref 167, .int (i32 ((N ^ N : Nat) : Int)), .int (i32 n)] [] (E T (bbS σ (odI N n O N) B (rdI (σ 601 167) (σ 602 167) (σ 605 167 0) (ordN N n) N).1 (rdI (σ 601 167) (σ 602 167) (σ 605 167 0) (ordN N n) N).2.1 (rdI (σ 601 167) (σ 602 167) (σ 605 167 0) (ordN N n) N).2.2.1 (boI (σ 601 167) (σ 602 167) (σ 605 167 0) N n).1 (boI (σ 601 167) (σ 602 167) (σ 605 167 0) N n).2.1)) Q := by
            simp (disch := (first | assumption | omega | exact Nat.le_of_ble_eq_true rfl | rfl)) only [w70_0, w70_1, w70_2, w70_5, w70_6, w70_7, w70_10, w70_11, w70_13, w70_16, w70_17, w70_18, w70_19, w70_21, w70_22, w70_25, w70_28, w70_29, w70_30, w70_33, w70_34, w70_35, w70_38, w70_41, w70_42, w70_44, w70_45, w70_48, w70_49, w70_50, w70_53, w70_56, w70_57, w70_60, w70_61, w70_64, w70_65, w70_68, w70_71, w70_72, w70_75, w70_76, w70_79, w70_82, w70_83, w70_86, w70_87, w70_90, w70_93, w70_94, w70_95, w70_98, w70_101, w70_102, w70_103, w70_106, w70_109, w70_110, w70_113, w70_114, w70_115, w70_118, w70_119, w70_120, w70_123, w70_126, w70_129, Ko_n, Ko_v, vX_i, vX_r, vX_l, vX_j, reduceIte]
            exact ih' _ _ _ _ _ hB
          have h1 : ¬ (rdI (σ 601 167) (σ 602 167) (σ 605 167 0) (ordN N n) N).2.1 < (boI (σ 601 167) (σ 602 167) (σ 605 167 0) N n).1 := fun w => hb (Or.inl w)
          by_cases h3 : (rdI (σ 601 167) (σ 602 167) (σ 605 167 0) (ordN N n) N).2.1 = (boI (σ 601 167) (σ 602 167) (σ 605 167 0) N n).1
          · have h4 : ¬ (rdI (σ 601 167) (σ 602 167) (σ 605 167 0) (ordN N n) N).1 < (boI (σ 601 167) (σ 602 167) (σ 605 167 0) N n).2.1 := fun w => hb (Or.inr ⟨h3, w⟩)
            simp (disch := (first | assumption | omega | exact Nat.le_of_ble_eq_true rfl | rfl)) only [Ko_n, w70_60, w70_61, w70_64, w70_65, w70_68, w70_71, w70_72, w70_75, w70_76, w70_79, w70_82, w70_83, w70_86, w70_87, w70_90, bb6, bb10, bb7, bb11, h3, if_false, not_true, show (boI (σ 601 167) (σ 602 167) (σ 605 167 0) N n).2.1 ≤ (rdI (σ 601 167) (σ 602 167) (σ 605 167 0) (ordN N n) N).1 by omega, Int.lt_irrefl, if_true]
            rw [h3] at hgo
            exact hgo
          · simp (disch := (first | assumption | omega | exact Nat.le_of_ble_eq_true rfl | rfl)) only [Ko_n, w70_60, w70_61, w70_64, w70_65, w70_68, w70_71, w70_72, w70_75, w70_76, w70_79, bb7, bb11, h1, h3, if_false, not_false_eq_true, if_true]
            exact hgo
      · rw [if_neg hok]
        rw [if_neg (fun w => hok w.1)] at ih'
        simp (disch := (first | assumption | omega | exact Nat.le_of_ble_eq_true rfl | rfl)) only [w70_0, w70_1, w70_2, w70_5, w70_6, w70_7, w70_10, w70_11, w70_13, w70_16, w70_17, w70_18, w70_19, w70_21, w70_22, w70_25, w70_28, w70_29, w70_30, w70_33, w70_34, w70_35, w70_38, w70_41, w70_42, w70_44, w70_45, w70_48, w70_49, w70_50, w70_53, w70_56, w70_57, w70_60, w70_61, w70_64, w70_65, w70_68, w70_71, w70_72, w70_75, w70_76, w70_79, w70_82, w70_83, w70_86, w70_87, w70_90, w70_93, w70_94, w70_95, w70_98, w70_101, w70_102, w70_103, w70_106, w70_109, w70_110, w70_113, w70_114, w70_115, w70_118, w70_119, w70_120, w70_123, w70_126, w70_129, Ko_n, Ko_v, vX_i, vX_r, vX_l, vX_j, reduceIte, Int.reduceEq]
        exact ih' _ _ _ _ _ hB
  have loop1 : ∀ (m i : Nat), i + m = N → Wp (d + 1) M_X6_inBestOrder 20 [.ref 167, .int (i32 ((N ^ i : Nat) : Int)), .int (i32 i)] [] (E T (bbS σ (σ 603 167) (σ 609 167) (σ 606 167 0) (σ 607 167 0) (σ 608 167 0) (N + 1) far)) Q := by
    intro m
    induction m with
    | zero =>
      intro i hi
      have hi : i = N := by omega
      subst hi
      have := loop2 (i ^ i) 0 (σ 603 167) (σ 609 167) (σ 606 167 0) (σ 607 167 0) (σ 608 167 0) (by omega) (fun h => by
        have : ((i : Int) + 1) ≤ i := h
        omega)
      rw [w70_20]
      simp (disch := (first | assumption | omega | exact Nat.le_of_ble_eq_true rfl | rfl)) only [w70_0, w70_1, w70_2, w70_5, w70_6, w70_7, w70_10, w70_11, w70_13, w70_16, w70_17, w70_18, w70_19, w70_21, w70_22, w70_25, w70_28, w70_29, w70_30, w70_33, w70_34, w70_35, w70_38, w70_41, w70_42, w70_44, w70_45, w70_48, w70_49, w70_50, w70_53, w70_56, w70_57, w70_60, w70_61, w70_64, w70_65, w70_68, w70_71, w70_72, w70_75, w70_76, w70_79, w70_82, w70_83, w70_86, w70_87, w70_90, w70_93, w70_94, w70_95, w70_98, w70_101, w70_102, w70_103, w70_106, w70_109, w70_110, w70_113, w70_114, w70_115, w70_118, w70_119, w70_120, w70_123, w70_126, w70_129, Ko_n, Ko_v, vX_i, vX_r, vX_l, vX_j, reduceIte, bbt, hn, Int.le_refl]
      exact this
    | succ m ih =>
      intro i hi
      have ih' := ih (i + 1) (by omega)
      rw [w70_20]
      simp (disch := (first | assumption | omega | exact Nat.le_of_ble_eq_true rfl | rfl)) only [w70_0, w70_1, w70_2, w70_5, w70_6, w70_7, w70_10, w70_11, w70_13, w70_16, w70_17, w70_18, w70_19, w70_21, w70_22, w70_25, w70_28, w70_29, w70_30, w70_33, w70_34, w70_35, w70_38, w70_41, w70_42, w70_44, w70_45, w70_48, w70_49, w70_50, w70_53, w70_56, w70_57, w70_60, w70_61, w70_64, w70_65, w70_68, w70_71, w70_72, w70_75, w70_76, w70_79, w70_82, w70_83, w70_86, w70_87, w70_90, w70_93, w70_94, w70_95, w70_98, w70_101, w70_102, w70_103, w70_106, w70_109, w70_110, w70_113, w70_114, w70_115, w70_118, w70_119, w70_120, w70_123, w70_126, w70_129, Ko_n, Ko_v, vX_i, vX_r, vX_l, vX_j, reduceIte, bbt, hn, show ¬ (N : Int) ≤ (i : Int) by omega]
      rw [show ((N ^ (i + 1) : Nat) : Int) = ((N ^ i : Nat) : Int) * N by rw [Nat.pow_succ]; exact Int.natCast_mul _ _] at ih'
      exact ih'
  rw [n70 _ _ _ _ _ _ hr]
  simp (disch := (first | assumption | omega | exact Nat.le_of_ble_eq_true rfl | rfl)) only [w70_0, w70_1, w70_2, w70_5, w70_6, w70_7, w70_10, w70_11, w70_13, w70_16, w70_17, w70_18, w70_19, w70_21, w70_22, w70_25, w70_28, w70_29, w70_30, w70_33, w70_34, w70_35, w70_38, w70_41, w70_42, w70_44, w70_45, w70_48, w70_49, w70_50, w70_53, w70_56, w70_57, w70_60, w70_61, w70_64, w70_65, w70_68, w70_71, w70_72, w70_75, w70_76, w70_79, w70_82, w70_83, w70_86, w70_87, w70_90, w70_93, w70_94, w70_95, w70_98, w70_101, w70_102, w70_103, w70_106, w70_109, w70_110, w70_113, w70_114, w70_115, w70_118, w70_119, w70_120, w70_123, w70_126, w70_129, Ko_n, Ko_v, vX_i, vX_r, vX_l, vX_j, reduceIte, hn]
  have := loop1 N 0 (by omega)
  rw [bb_init] at this
  exact this
