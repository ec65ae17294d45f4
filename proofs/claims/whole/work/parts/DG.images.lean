/-! ===== the reference: image, restore, feed ===== -/
def imR (K f : Int → Int) (i n : Int) : Int → Int := fun j => if 1900 * i ≤ j ∧ j < 1900 * i + n then K (j - 1900 * i) else f j
theorem imR_0 {K f : Int → Int} {i : Int} : imR K f i 0 = f := by
  funext j
  unfold imR
  rw [if_neg (by omega)]
theorem imR_s {K f : Int → Int} {i n : Int} (h0 : 0 ≤ n) : fu (imR K f i n) (1900 * i + n) (K n) = imR K f i (n + 1) := by
  funext j
  unfold imR
  by_cases e : j = 1900 * i + n
  · rw [e, fu_s, if_pos (by omega), show 1900 * i + n - 1900 * i = n by omega]
  · rw [fu_n e]
    by_cases h : 1900 * i ≤ j ∧ j < 1900 * i + n
    · rw [if_pos h, if_pos (by omega)]
    · rw [if_neg h, if_neg (by omega)]
def rsR (K f : Int → Int) (i n : Int) : Int → Int := fun j => if 0 ≤ j ∧ j < n then f (1900 * i + j) else K j
theorem rsR_0 {K f : Int → Int} {i : Int} : rsR K f i 0 = K := by
  funext j
  unfold rsR
  rw [if_neg (by omega)]
theorem rsR_s {K f : Int → Int} {i n : Int} (h0 : 0 ≤ n) : fu (rsR K f i n) n (f (1900 * i + n)) = rsR K f i (n + 1) := by
  funext j
  unfold rsR
  by_cases e : j = n
  · rw [e, fu_s, if_pos (by omega)]
  · rw [fu_n e]
    by_cases h : 0 ≤ j ∧ j < n
    · rw [if_pos h, if_pos (by omega)]
    · rw [if_neg h, if_neg (by omega)]
theorem c303 {d : Nat} {k i : Int} {K : Int → Int} {T : Tt} {σ : St} {Q : vmO → vmH → Prop} (hK : σ 1200 382 = K) (x0 : -2147483648 ≤ i) (x1 : i < 2147483648)
    (hQ1 : ¬ (0 ≤ i ∧ i < 3) → Q (.inl none) (E T (upA σ 1204 382 fun _ => 1)))
    (hQ2 : (0 ≤ i ∧ i < 3) → Q (.inl none) (E T (upA (upA (upA σ 1204 382 fun _ => 0) 1203 382 (fu (σ 1203 382) i 1)) 1202 382 (imR K (σ 1202 382) i 1900)))) : Ca (d + 2) k 303 [.ref 382, .int (i32 i)] (E T σ) Q := by
  have h0 := ob_md
  rw [n303 _ _ _ _ _ _ _ h0]
  simp (disch := (first | assumption | omega | exact Nat.le_of_ble_eq_true rfl | rfl)) only [w303_0, w303_1, w303_2, w303_3, w303_4, w303_7, Ko_n, Ko_v, vX_i, vX_r, vX_l, vX_j, reduceIte]
  rw [c176 (by omega) (by omega) (by omega) (by omega) (by omega) (by omega) (by omega)]
  by_cases a : 0 ≤ i ∧ i < 3
  · rw [if_pos (show 0 ≤ i ∧ i ≤ 2 by omega)]
    have hq := hQ2 a
    have loop : ∀ (m' n : Nat), n + m' = 1900 → Wp (d + 2) M_X12_image 38 [.ref 382, .int (i32 i), .int (i32 n)] [] (E T (upA (upA (upA σ 1204 382 fun _ => 0) 1203 382 (fu (σ 1203 382) i 1)) 1202 382 (imR K (σ 1202 382) i n))) Q := by
      intro m'
      induction m' with
      | zero =>
        intro n hn
        have hn : n = 1900 := by omega
        subst hn
        rw [w303_38]
        simp (disch := (first | assumption | omega | exact Nat.le_of_ble_eq_true rfl | rfl)) only [w303_0, w303_1, w303_2, w303_3, w303_4, w303_7, w303_10, w303_13, w303_14, w303_17, w303_18, w303_21, w303_22, w303_25, w303_28, w303_29, w303_30, w303_33, w303_34, w303_35, w303_36, w303_37, w303_39, w303_42, w303_45, w303_46, w303_49, w303_52, w303_53, w303_54, w303_55, w303_56, w303_57, w303_60, w303_61, w303_62, w303_63, w303_66, w303_69, Ko_n, Ko_v, vX_i, vX_r, vX_l, vX_j, reduceIte, show (1900 : Int) ≤ ((1900 : Nat) : Int) by omega]
        exact hq
      | succ m' ih =>
        intro n hn
        have ih' := ih (n + 1) (by omega)
        rw [show ((n + 1 : Nat) : Int) = (n : Int) + 1 by omega, ← imR_s (by omega)] at ih'
        rw [w303_38]
        simp (disch := (first | assumption | omega | exact Nat.le_of_ble_eq_true rfl | rfl)) only [w303_0, w303_1, w303_2, w303_3, w303_4, w303_7, w303_10, w303_13, w303_14, w303_17, w303_18, w303_21, w303_22, w303_25, w303_28, w303_29, w303_30, w303_33, w303_34, w303_35, w303_36, w303_37, w303_39, w303_42, w303_45, w303_46, w303_49, w303_52, w303_53, w303_54, w303_55, w303_56, w303_57, w303_60, w303_61, w303_62, w303_63, w303_66, w303_69, Ko_n, Ko_v, vX_i, vX_r, vX_l, vX_j, reduceIte, show ¬ (1900 : Int) ≤ (n : Int) by omega, upA_s, upA_upA, upA_t, hK]
        exact ih'
    have l0 := loop 1900 0 (by omega)
    rw [show ((0 : Nat) : Int) = 0 from rfl, imR_0] at l0
    have e : upA (upA (upA σ 1204 382 fun _ => 0) 1203 382 (fu (σ 1203 382) i 1)) 1202 382 (σ 1202 382) = upA (upA σ 1204 382 fun _ => 0) 1203 382 (fu (σ 1203 382) i 1) := by
      have e1 : σ 1202 382 = upA (upA σ 1204 382 fun _ => 0) 1203 382 (fu (σ 1203 382) i 1) 1202 382 := by rw [upA_t (by omega), upA_t (by omega)]
      rw [e1, upA_self]
    rw [e] at l0
    simp (disch := (first | assumption | omega | exact Nat.le_of_ble_eq_true rfl | rfl)) only [w303_10, w303_13, w303_14, w303_17, w303_18, w303_21, w303_22, w303_25, w303_28, w303_29, w303_30, w303_33, w303_34, w303_35, w303_36, w303_37, Ko_n, Ko_v, vX_i, vX_r, vX_l, vX_j, reduceIte, Int.reduceEq, not_false_eq_true, upA_s, Int.le_refl, upA_t, or_true]
    exact l0
  · rw [if_neg (show ¬ (0 ≤ i ∧ i ≤ 2) by omega)]
    simp (disch := (first | assumption | omega | exact Nat.le_of_ble_eq_true rfl | rfl)) only [w303_10, w303_13, w303_14, w303_17, w303_18, w303_21, w303_22, w303_25, w303_28, w303_29, w303_30, w303_33, w303_34, w303_35, w303_36, w303_37, Ko_n, Ko_v, vX_i, vX_r, vX_l, vX_j, reduceIte, not_true, upA_s, show ¬ (1 : Int) ≤ 0 by omega]
    exact hQ1 a
theorem c304 {d : Nat} {k i : Int} {K : Int → Int} {T : Tt} {σ : St} {Q : vmO → vmH → Prop} (hK : σ 1200 382 = K) (hm : ∀ j, 0 ≤ j → j < 3 → σ 1203 382 j = 0 ∨ σ 1203 382 j = 1) (x0 : -2147483648 ≤ i) (x1 : i < 2147483648)
    (hQ1 : ¬ (0 ≤ i ∧ i < 3) → Q (.inl none) (E T (upA σ 1204 382 fun _ => 1)))
    (hQ2 : (0 ≤ i ∧ i < 3) → σ 1203 382 i = 0 → Q (.inl none) (E T (upA σ 1204 382 fun _ => 2)))
    (hQ3 : (0 ≤ i ∧ i < 3) → σ 1203 382 i = 1 → Q (.inl none) (E T (upA (upA σ 1204 382 fun _ => 0) 1200 382 (rsR K (σ 1202 382) i 1900)))) : Ca (d + 2) k 304 [.ref 382, .int (i32 i)] (E T σ) Q := by
  have h0 := ob_md
  rw [n304 _ _ _ _ _ _ _ h0]
  simp (disch := (first | assumption | omega | exact Nat.le_of_ble_eq_true rfl | rfl)) only [w304_0, w304_1, w304_2, w304_3, w304_4, w304_7, Ko_n, Ko_v, vX_i, vX_r, vX_l, vX_j, reduceIte]
  rw [c176 (by omega) (by omega) (by omega) (by omega) (by omega) (by omega) (by omega)]
  by_cases a : 0 ≤ i ∧ i < 3
  · rw [if_pos (show 0 ≤ i ∧ i ≤ 2 by omega)]
    rcases hm i a.1 a.2 with b | b
    · simp (disch := (first | assumption | omega | exact Nat.le_of_ble_eq_true rfl | rfl)) only [w304_10, w304_13, w304_14, w304_17, w304_18, w304_21, w304_22, w304_23, w304_26, w304_27, w304_30, w304_31, w304_34, w304_35, w304_38, w304_41, w304_42, w304_43, Ko_n, Ko_v, vX_i, vX_r, vX_l, vX_j, reduceIte, Int.reduceEq, not_false_eq_true, b, not_true, upA_s, show ¬ (2 : Int) ≤ 0 by omega]
      exact hQ2 a b
    · have hq := hQ3 a b
      have loop : ∀ (m' n : Nat), n + m' = 1900 → Wp (d + 2) M_X12_restore 44 [.ref 382, .int (i32 i), .int (i32 n)] [] (E T (upA (upA σ 1204 382 fun _ => 0) 1200 382 (rsR K (σ 1202 382) i n))) Q := by
        intro m'
        induction m' with
        | zero =>
          intro n hn
          have hn : n = 1900 := by omega
          subst hn
          rw [w304_44]
          simp (disch := (first | assumption | omega | exact Nat.le_of_ble_eq_true rfl | rfl)) only [w304_0, w304_1, w304_2, w304_3, w304_4, w304_7, w304_10, w304_13, w304_14, w304_17, w304_18, w304_21, w304_22, w304_23, w304_26, w304_27, w304_30, w304_31, w304_34, w304_35, w304_38, w304_41, w304_42, w304_43, w304_45, w304_48, w304_51, w304_52, w304_55, w304_56, w304_57, w304_60, w304_63, w304_64, w304_65, w304_66, w304_67, w304_68, w304_69, w304_72, w304_75, Ko_n, Ko_v, vX_i, vX_r, vX_l, vX_j, reduceIte, show (1900 : Int) ≤ ((1900 : Nat) : Int) by omega]
          exact hq
        | succ m' ih =>
          intro n hn
          have ih' := ih (n + 1) (by omega)
          rw [show ((n + 1 : Nat) : Int) = (n : Int) + 1 by omega, ← rsR_s (by omega)] at ih'
          rw [w304_44]
          simp (disch := (first | assumption | omega | exact Nat.le_of_ble_eq_true rfl | rfl)) only [w304_0, w304_1, w304_2, w304_3, w304_4, w304_7, w304_10, w304_13, w304_14, w304_17, w304_18, w304_21, w304_22, w304_23, w304_26, w304_27, w304_30, w304_31, w304_34, w304_35, w304_38, w304_41, w304_42, w304_43, w304_45, w304_48, w304_51, w304_52, w304_55, w304_56, w304_57, w304_60, w304_63, w304_64, w304_65, w304_66, w304_67, w304_68, w304_69, w304_72, w304_75, Ko_n, Ko_v, vX_i, vX_r, vX_l, vX_j, reduceIte, show ¬ (1900 : Int) ≤ (n : Int) by omega, upA_s, upA_upA, upA_t]
          exact ih'
      have l0 := loop 1900 0 (by omega)
      rw [show ((0 : Nat) : Int) = 0 from rfl, rsR_0] at l0
      have e : upA (upA σ 1204 382 fun _ => 0) 1200 382 K = upA σ 1204 382 fun _ => 0 := by
        have e1 : K = (upA σ 1204 382 fun _ => 0) 1200 382 := by rw [upA_t (by omega)]; exact hK.symm
        rw [e1, upA_self]
      rw [e] at l0
      simp (disch := (first | assumption | omega | exact Nat.le_of_ble_eq_true rfl | rfl)) only [w304_10, w304_13, w304_14, w304_17, w304_18, w304_21, w304_22, w304_23, w304_26, w304_27, w304_30, w304_31, w304_34, w304_35, w304_38, w304_41, w304_42, w304_43, Ko_n, Ko_v, vX_i, vX_r, vX_l, vX_j, reduceIte, Int.reduceEq, not_false_eq_true, b, upA_s, Int.le_refl]
      exact l0
  · rw [if_neg (show ¬ (0 ≤ i ∧ i ≤ 2) by omega)]
    simp (disch := (first | assumption | omega | exact Nat.le_of_ble_eq_true rfl | rfl)) only [w304_10, w304_13, w304_14, w304_17, w304_18, w304_21, w304_22, w304_23, w304_26, w304_27, w304_30, w304_31, w304_34, w304_35, w304_38, w304_41, w304_42, w304_43, Ko_n, Ko_v, vX_i, vX_r, vX_l, vX_j, reduceIte, not_true, upA_s, show ¬ (1 : Int) ≤ 0 by omega]
    exact hQ1 a
/-- five numbers onto the tape -/
def fdP (a b c e g : Int) (m : Int) : Int := if m < 4 then a else if m < 8 then b else if m < 12 then c else if m < 16 then e else g
def fdR (a b c e g : Int) (f : Int → Int) (n : Int) : Nat → Int → Int
  | 0 => f
  | m + 1 => fu (fdR a b c e g f n m) (n + m) (an (us (fdP a b c e g m) (24 - 8 * an m 3)) 255)
theorem fdR_4 {a b c e g n v : Int} {f : Int → Int} {q : Nat} (hv : ∀ m : Int, 4 * q ≤ m → m < 4 * q + 4 → fdP a b c e g m = v) (hq : q < 5) : fdR a b c e g f n (4 * q + 4) = tpI v (fdR a b c e g f n (4 * q)) (n + 4 * q) 4 := by
  have ha : ∀ q : Fin 5, an (((4 * q.val : Nat) : Int)) 3 = 0 ∧ an (((4 * q.val + 1 : Nat) : Int)) 3 = 1 ∧ an (((4 * q.val + 2 : Nat) : Int)) 3 = 2 ∧ an (((4 * q.val + 3 : Nat) : Int)) 3 = 3 := by decide
  have h4 := ha ⟨q, hq⟩
  dsimp only at h4
  have eq1 : ∀ m : Nat, fdR a b c e g f n (m + 1) = fu (fdR a b c e g f n m) (n + m) (an (us (fdP a b c e g m) (24 - 8 * an m 3)) 255) := fun _ => rfl
  have t : ∀ (F : Int → Int) (x : Int) (j : Nat), tpI v F x (j + 1) = fu (tpI v F x j) (x + j) (an (us v (24 - 8 * j)) 255) := fun _ _ _ => rfl
  rw [show 4 * q + 4 = 4 * q + 3 + 1 from rfl, eq1, show 4 * q + 3 = 4 * q + 2 + 1 from rfl, eq1, show 4 * q + 2 = 4 * q + 1 + 1 from rfl, eq1, eq1]
  rw [show (4 : Nat) = 3 + 1 from rfl, t, show (3 : Nat) = 2 + 1 from rfl, t, show (2 : Nat) = 1 + 1 from rfl, t, show (1 : Nat) = 0 + 1 from rfl, t]
  simp only [Nat.reduceAdd, Nat.zero_add]
  rw [show tpI v (fdR a b c e g f n (4 * q)) (n + 4 * ↑q) 0 = fdR a b c e g f n (4 * q) from rfl]
  rw [show 4 * q + 1 + 1 = 4 * q + 2 from rfl, show 4 * q + 2 + 1 = 4 * q + 3 from rfl, h4.1, h4.2.1, h4.2.2.1, h4.2.2.2, hv _ (by omega) (by omega), hv _ (by omega) (by omega), hv _ (by omega) (by omega), hv _ (by omega) (by omega)]
  rw [show n + ((4 * q + 3 : Nat) : Int) = n + 4 * q + ((3 : Nat) : Int) by omega, show n + ((4 * q + 2 : Nat) : Int) = n + 4 * q + ((2 : Nat) : Int) by omega, show n + ((4 * q + 1 : Nat) : Int) = n + 4 * q + ((1 : Nat) : Int) by omega, show n + ((4 * q : Nat) : Int) = n + 4 * q + ((0 : Nat) : Int) by omega]
  rfl
theorem fdR_fd {a b c e g n : Int} {f : Int → Int} : fdR a b c e g f n 20 = fdT a b c e g f n := by
  have h0 := fdR_4 (a := a) (b := b) (c := c) (e := e) (g := g) (n := n) (f := f) (q := 0) (v := a) (fun m _ _ => by unfold fdP; rw [if_pos (by omega)]) (by omega)
  have h1 := fdR_4 (a := a) (b := b) (c := c) (e := e) (g := g) (n := n) (f := f) (q := 1) (v := b) (fun m _ _ => by unfold fdP; rw [if_neg (by omega), if_pos (by omega)]) (by omega)
  have h2 := fdR_4 (a := a) (b := b) (c := c) (e := e) (g := g) (n := n) (f := f) (q := 2) (v := c) (fun m _ _ => by unfold fdP; rw [if_neg (by omega), if_neg (by omega), if_pos (by omega)]) (by omega)
  have h3 := fdR_4 (a := a) (b := b) (c := c) (e := e) (g := g) (n := n) (f := f) (q := 3) (v := e) (fun m _ _ => by unfold fdP; rw [if_neg (by omega), if_neg (by omega), if_neg (by omega), if_pos (by omega)]) (by omega)
  have h4 := fdR_4 (a := a) (b := b) (c := c) (e := e) (g := g) (n := n) (f := f) (q := 4) (v := g) (fun m _ _ => by unfold fdP; rw [if_neg (by omega), if_neg (by omega), if_neg (by omega), if_neg (by omega)]) (by omega)
  simp only [Nat.reduceMul, Nat.reduceAdd] at h0 h1 h2 h3 h4
  rw [h4, h3, h2, h1, h0]
  unfold fdT
  rw [show fdR a b c e g f n 0 = f from rfl]
  rw [show n + 4 * ((0 : Nat) : Int) = n by omega, show n + 4 * ((1 : Nat) : Int) = n + 4 by omega, show n + 4 * ((2 : Nat) : Int) = n + 4 + 4 by omega, show n + 4 * ((3 : Nat) : Int) = n + 4 + 4 + 4 by omega, show n + 4 * ((4 : Nat) : Int) = n + 4 + 4 + 4 + 4 by omega]
theorem up56 {X : St} {f g : Int → Int} : upA (upA X 1206 382 g) 1205 382 f = upA (upA X 1205 382 f) 1206 382 g := upA_comm (by omega)
theorem c179 {d : Nat} {k a b c e g n : Int} {f : Int → Int} {T : Tt} {σ : St} {Q : vmO → vmH → Prop} (hF : σ 1205 382 = f) (hn : σ 1206 382 0 = n) (n0 : 0 ≤ n) (n1 : n ≤ 900)
    (hQ1 : ¬ n + 20 ≤ 900 → Q (.inl (some (.int (i32 (-1))))) (E T (upA σ 1204 382 fun _ => 0)))
    (hQ2 : n + 20 ≤ 900 → Q (.inl (some (.int (i32 (n + 20))))) (E T (upA (upA (upA σ 1204 382 fun _ => 0) 1205 382 (fdT a b c e g f n)) 1206 382 fun _ => n + 20))) : Ca d k 179 [.ref 382, .int (i32 a), .int (i32 b), .int (i32 c), .int (i32 e), .int (i32 g)] (E T σ) Q := by
  have h0 := ob_md
  rw [n179 _ _ _ _ _ _ _ _ _ _ _ h0]
  by_cases hx : n + 20 ≤ 900
  · have hq := hQ2 hx
    rw [← fdR_fd] at hq
    have loop : ∀ (m' m : Nat) (l7 : Value), m + m' = 20 → Wp d M_X12_feed 23 [.ref 382, .int (i32 a), .int (i32 b), .int (i32 c), .int (i32 e), .int (i32 g), .int (i32 m), l7] [] (E T (upA (upA (upA σ 1204 382 fun _ => 0) 1205 382 (fdR a b c e g f n m)) 1206 382 fun _ => n + m)) Q := by
      intro m'
      induction m' with
      | zero =>
        intro m l7 hm
        have hm : m = 20 := by omega
        subst hm
        rw [w179_23]
        simp (disch := (first | assumption | omega | exact Nat.le_of_ble_eq_true rfl | rfl)) only [w179_0, w179_1, w179_2, w179_5, w179_6, w179_9, w179_11, w179_12, w179_15, w179_18, w179_19, w179_20, w179_21, w179_25, w179_27, w179_30, w179_32, w179_33, w179_36, w179_37, w179_40, w179_42, w179_44, w179_47, w179_48, w179_51, w179_53, w179_55, w179_58, w179_59, w179_62, w179_64, w179_66, w179_69, w179_71, w179_74, w179_76, w179_78, w179_79, w179_82, w179_83, w179_86, w179_88, w179_90, w179_92, w179_94, w179_95, w179_96, w179_97, w179_98, w179_99, w179_102, w179_103, w179_104, w179_105, w179_106, w179_109, w179_110, w179_111, w179_114, w179_117, w179_120, w179_121, w179_124, Ko_n, Ko_v, vX_i, vX_r, vX_l, vX_j, reduceIte, show (20 : Int) ≤ ((20 : Nat) : Int) by omega, upA_s]
        exact hq
      | succ m' ih =>
        intro m l7 hm
        have go : ∀ (v : Int) (l7 : Value), fdP a b c e g m = v → Wp d M_X12_feed 76 [.ref 382, .int (i32 a), .int (i32 b), .int (i32 c), .int (i32 e), .int (i32 g), .int (i32 m), l7] [.int (i32 v)] (E T (upA (upA (upA σ 1204 382 fun _ => 0) 1205 382 (fdR a b c e g f n m)) 1206 382 fun _ => n + m)) Q := by
          intro v l7 hv
          have ih' := ih (m + 1) (.int (i32 v)) (by omega)
          rw [show fdR a b c e g f n (m + 1) = fu (fdR a b c e g f n m) (n + m) (an (us (fdP a b c e g m) (24 - 8 * an m 3)) 255) from rfl, hv, show n + ((m + 1 : Nat) : Int) = n + m + 1 by omega] at ih'
          simp (disch := (first | assumption | omega | exact Nat.le_of_ble_eq_true rfl | rfl)) only [w179_76, w179_78, w179_79, w179_82, w179_83, w179_86, w179_88, w179_90, w179_92, w179_94, w179_95, w179_96, w179_97, w179_98, w179_99, w179_102, w179_103, w179_104, w179_105, w179_106, w179_109, w179_110, w179_111, w179_114, w179_117, Ko_n, Ko_v, vX_i, vX_r, vX_l, vX_j, reduceIte, upA_s, upA_t, upA_upA, up56]
          exact ih'
        rw [w179_23]
        unfold fdP at go
        by_cases m4 : (m : Int) < 4
        · simp (disch := (first | assumption | omega | exact Nat.le_of_ble_eq_true rfl | rfl)) only [w179_25, w179_27, w179_30, w179_32, w179_33, w179_36, w179_37, w179_40, w179_42, w179_44, w179_47, w179_48, w179_51, w179_53, w179_55, w179_58, w179_59, w179_62, w179_64, w179_66, w179_69, w179_71, w179_74, Ko_n, Ko_v, vX_i, vX_r, vX_l, vX_j, reduceIte, show ¬ (20 : Int) ≤ (m : Int) by omega, show ¬ (4 : Int) ≤ (m : Int) by omega]
          exact go a _ (by rw [if_pos m4])
        · by_cases m8 : (m : Int) < 8
          · simp (disch := (first | assumption | omega | exact Nat.le_of_ble_eq_true rfl | rfl)) only [w179_25, w179_27, w179_30, w179_32, w179_33, w179_36, w179_37, w179_40, w179_42, w179_44, w179_47, w179_48, w179_51, w179_53, w179_55, w179_58, w179_59, w179_62, w179_64, w179_66, w179_69, w179_71, w179_74, Ko_n, Ko_v, vX_i, vX_r, vX_l, vX_j, reduceIte, show ¬ (20 : Int) ≤ (m : Int) by omega, show (4 : Int) ≤ (m : Int) by omega, show ¬ (8 : Int) ≤ (m : Int) by omega]
            exact go b _ (by rw [if_neg m4, if_pos m8])
          · by_cases m12 : (m : Int) < 12
            · simp (disch := (first | assumption | omega | exact Nat.le_of_ble_eq_true rfl | rfl)) only [w179_25, w179_27, w179_30, w179_32, w179_33, w179_36, w179_37, w179_40, w179_42, w179_44, w179_47, w179_48, w179_51, w179_53, w179_55, w179_58, w179_59, w179_62, w179_64, w179_66, w179_69, w179_71, w179_74, Ko_n, Ko_v, vX_i, vX_r, vX_l, vX_j, reduceIte, show ¬ (20 : Int) ≤ (m : Int) by omega, show (4 : Int) ≤ (m : Int) by omega, show (8 : Int) ≤ (m : Int) by omega, show ¬ (12 : Int) ≤ (m : Int) by omega]
              exact go c _ (by rw [if_neg m4, if_neg m8, if_pos m12])
            · by_cases m16 : (m : Int) < 16
              · simp (disch := (first | assumption | omega | exact Nat.le_of_ble_eq_true rfl | rfl)) only [w179_25, w179_27, w179_30, w179_32, w179_33, w179_36, w179_37, w179_40, w179_42, w179_44, w179_47, w179_48, w179_51, w179_53, w179_55, w179_58, w179_59, w179_62, w179_64, w179_66, w179_69, w179_71, w179_74, Ko_n, Ko_v, vX_i, vX_r, vX_l, vX_j, reduceIte, show ¬ (20 : Int) ≤ (m : Int) by omega, show (4 : Int) ≤ (m : Int) by omega, show (8 : Int) ≤ (m : Int) by omega, show (12 : Int) ≤ (m : Int) by omega, show ¬ (16 : Int) ≤ (m : Int) by omega]
                exact go e _ (by rw [if_neg m4, if_neg m8, if_neg m12, if_pos m16])
              · simp (disch := (first | assumption | omega | exact Nat.le_of_ble_eq_true rfl | rfl)) only [w179_25, w179_27, w179_30, w179_32, w179_33, w179_36, w179_37, w179_40, w179_42, w179_44, w179_47, w179_48, w179_51, w179_53, w179_55, w179_58, w179_59, w179_62, w179_64, w179_66, w179_69, w179_71, w179_74, Ko_n, Ko_v, vX_i, vX_r, vX_l, vX_j, reduceIte, show ¬ (20 : Int) ≤ (m : Int) by omega, show (4 : Int) ≤ (m : Int) by omega, show (8 : Int) ≤ (m : Int) by omega, show (12 : Int) ≤ (m : Int) by omega, show (16 : Int) ≤ (m : Int) by omega]
                exact go g _ (by rw [if_neg m4, if_neg m8, if_neg m12, if_neg m16])
    have l0 := loop 20 0 vmJ (by omega)
    rw [show fdR a b c e g f n 0 = f from rfl, show n + ((0 : Nat) : Int) = n by omega] at l0
    have hS : E T (upA (upA (upA σ 1204 382 fun _ => 0) 1205 382 f) 1206 382 (fun _ => n)) = E T (upA σ 1204 382 fun _ => 0) := by
      have e1 : f = (upA σ 1204 382 fun _ => 0) 1205 382 := by rw [upA_t (by omega)]; exact hF.symm
      have e2 : n = (upA σ 1204 382 fun _ => 0) 1206 382 0 := by rw [upA_t (by omega)]; exact hn.symm
      rw [e1, upA_self, e2]
      exact E_same (c := 6) (tag := 1206) (k := 0) h0 rfl (by omega)
    rw [hS] at l0
    simp (disch := (first | assumption | omega | exact Nat.le_of_ble_eq_true rfl | rfl)) only [w179_0, w179_1, w179_2, w179_5, w179_6, w179_9, w179_11, w179_12, w179_15, w179_18, w179_19, w179_20, w179_21, Ko_n, Ko_v, vX_i, vX_r, vX_l, vX_j, reduceIte, upA_t, hn, hx]
    exact l0
  · simp (disch := (first | assumption | omega | exact Nat.le_of_ble_eq_true rfl | rfl)) only [w179_0, w179_1, w179_2, w179_5, w179_6, w179_9, w179_11, w179_12, w179_15, w179_18, w179_19, w179_20, w179_21, Ko_n, Ko_v, vX_i, vX_r, vX_l, vX_j, reduceIte, upA_t, hn, hx]
    exact hQ1 hx
