/-! ===== the reference's reader: its store, small ones ===== -/
theorem ob_md : ob 12 382 := (rfl : sh 382 = (2, 12, 0, 0, 0))
def pS (σ : St) (s : Ps) : St := upA (upA (upA (upA (upA (upA (upA (upA σ 1212 382 (fun _ => pB s)) 1213 382 (fun _ => pP s)) 1209 382 (fun _ => pG s)) 1208 382 (fun _ => pH s)) 1210 382 (fun _ => pT s)) 1211 382 (fun _ => pV s)) 1216 382 (fun _ => pD s)) 1201 382 (pK s)
theorem pS_B {σ : St} {s : Ps} : pS σ s 1212 382 0 = pB s := by unfold pS; rw [upA_t (by omega), upA_t (by omega), upA_t (by omega), upA_t (by omega), upA_t (by omega), upA_t (by omega), upA_t (by omega), upA_s]
theorem pS_P {σ : St} {s : Ps} : pS σ s 1213 382 0 = pP s := by unfold pS; rw [upA_t (by omega), upA_t (by omega), upA_t (by omega), upA_t (by omega), upA_t (by omega), upA_t (by omega), upA_s]
theorem pS_G {σ : St} {s : Ps} : pS σ s 1209 382 0 = pG s := by unfold pS; rw [upA_t (by omega), upA_t (by omega), upA_t (by omega), upA_t (by omega), upA_t (by omega), upA_s]
theorem pS_H {σ : St} {s : Ps} : pS σ s 1208 382 0 = pH s := by unfold pS; rw [upA_t (by omega), upA_t (by omega), upA_t (by omega), upA_t (by omega), upA_s]
theorem pS_T {σ : St} {s : Ps} : pS σ s 1210 382 0 = pT s := by unfold pS; rw [upA_t (by omega), upA_t (by omega), upA_t (by omega), upA_s]
theorem pS_V {σ : St} {s : Ps} : pS σ s 1211 382 0 = pV s := by unfold pS; rw [upA_t (by omega), upA_t (by omega), upA_s]
theorem pS_D {σ : St} {s : Ps} : pS σ s 1216 382 0 = pD s := by unfold pS; rw [upA_t (by omega), upA_s]
theorem pS_K {σ : St} {s : Ps} : pS σ s 1201 382 = pK s := by unfold pS; rw [upA_s]
theorem pS_t {σ : St} {s : Ps} {t o : Nat} (h : t < 1201 ∨ (1201 < t ∧ t < 1208) ∨ (1213 < t ∧ t < 1216) ∨ 1216 < t) : pS σ s t o = σ t o := by unfold pS; rw [upA_t (by omega), upA_t (by omega), upA_t (by omega), upA_t (by omega), upA_t (by omega), upA_t (by omega), upA_t (by omega), upA_t (by omega)]
theorem pS_f {σ : St} {s : Ps} : pS σ s 1205 382 = σ 1205 382 := pS_t (by omega)
theorem pS_n {σ : St} {s : Ps} : pS σ s 1207 382 = σ 1207 382 := pS_t (by omega)
theorem pS_uB {σ : St} {s : Ps} {v : Int} : upA (pS σ s) 1212 382 (fun _ => v) = pS σ (v, pP s, pG s, pH s, pT s, pV s, pD s, pK s) := by
  unfold pS
  rw [upA_comm (t := 1201) (t' := 1212) (by omega), upA_comm (t := 1216) (t' := 1212) (by omega), upA_comm (t := 1211) (t' := 1212) (by omega), upA_comm (t := 1210) (t' := 1212) (by omega), upA_comm (t := 1208) (t' := 1212) (by omega), upA_comm (t := 1209) (t' := 1212) (by omega), upA_comm (t := 1213) (t' := 1212) (by omega), upA_upA]
  rfl
theorem pS_uP {σ : St} {s : Ps} {v : Int} : upA (pS σ s) 1213 382 (fun _ => v) = pS σ (pB s, v, pG s, pH s, pT s, pV s, pD s, pK s) := by
  unfold pS
  rw [upA_comm (t := 1201) (t' := 1213) (by omega), upA_comm (t := 1216) (t' := 1213) (by omega), upA_comm (t := 1211) (t' := 1213) (by omega), upA_comm (t := 1210) (t' := 1213) (by omega), upA_comm (t := 1208) (t' := 1213) (by omega), upA_comm (t := 1209) (t' := 1213) (by omega), upA_upA]
  rfl
theorem pS_uG {σ : St} {s : Ps} {v : Int} : upA (pS σ s) 1209 382 (fun _ => v) = pS σ (pB s, pP s, v, pH s, pT s, pV s, pD s, pK s) := by
  unfold pS
  rw [upA_comm (t := 1201) (t' := 1209) (by omega), upA_comm (t := 1216) (t' := 1209) (by omega), upA_comm (t := 1211) (t' := 1209) (by omega), upA_comm (t := 1210) (t' := 1209) (by omega), upA_comm (t := 1208) (t' := 1209) (by omega), upA_upA]
  rfl
theorem pS_uH {σ : St} {s : Ps} {v : Int} : upA (pS σ s) 1208 382 (fun _ => v) = pS σ (pB s, pP s, pG s, v, pT s, pV s, pD s, pK s) := by
  unfold pS
  rw [upA_comm (t := 1201) (t' := 1208) (by omega), upA_comm (t := 1216) (t' := 1208) (by omega), upA_comm (t := 1211) (t' := 1208) (by omega), upA_comm (t := 1210) (t' := 1208) (by omega), upA_upA]
  rfl
theorem pS_uT {σ : St} {s : Ps} {v : Int} : upA (pS σ s) 1210 382 (fun _ => v) = pS σ (pB s, pP s, pG s, pH s, v, pV s, pD s, pK s) := by
  unfold pS
  rw [upA_comm (t := 1201) (t' := 1210) (by omega), upA_comm (t := 1216) (t' := 1210) (by omega), upA_comm (t := 1211) (t' := 1210) (by omega), upA_upA]
  rfl
theorem pS_uV {σ : St} {s : Ps} {v : Int} : upA (pS σ s) 1211 382 (fun _ => v) = pS σ (pB s, pP s, pG s, pH s, pT s, v, pD s, pK s) := by
  unfold pS
  rw [upA_comm (t := 1201) (t' := 1211) (by omega), upA_comm (t := 1216) (t' := 1211) (by omega), upA_upA]
  rfl
theorem pS_uD {σ : St} {s : Ps} {v : Int} : upA (pS σ s) 1216 382 (fun _ => v) = pS σ (pB s, pP s, pG s, pH s, pT s, pV s, v, pK s) := by
  unfold pS
  rw [upA_comm (t := 1201) (t' := 1216) (by omega), upA_upA]
  rfl
theorem pS_uK {σ : St} {s : Ps} {v : Int → Int} : upA (pS σ s) 1201 382 v = pS σ (pB s, pP s, pG s, pH s, pT s, pV s, pD s, v) := by
  unfold pS
  rw [upA_upA]
  rfl
theorem pB_ {a b c d e g l : Int} {h : Int → Int} : pB (a, b, c, d, e, g, l, h) = a := rfl
theorem pP_ {a b c d e g l : Int} {h : Int → Int} : pP (a, b, c, d, e, g, l, h) = b := rfl
theorem pG_ {a b c d e g l : Int} {h : Int → Int} : pG (a, b, c, d, e, g, l, h) = c := rfl
theorem pH_ {a b c d e g l : Int} {h : Int → Int} : pH (a, b, c, d, e, g, l, h) = d := rfl
theorem pT_ {a b c d e g l : Int} {h : Int → Int} : pT (a, b, c, d, e, g, l, h) = e := rfl
theorem pV_ {a b c d e g l : Int} {h : Int → Int} : pV (a, b, c, d, e, g, l, h) = g := rfl
theorem pD_ {a b c d e g l : Int} {h : Int → Int} : pD (a, b, c, d, e, g, l, h) = l := rfl
theorem pK_ {a b c d e g l : Int} {h : Int → Int} : pK (a, b, c, d, e, g, l, h) = h := rfl
theorem c176 {d : Nat} {k a b c : Int} {h : vmH} {Q : vmO → vmH → Prop} (hk : 4 ≤ k) (a0 : -9223372036854775808 ≤ a) (a1 : a < 9223372036854775808) (b0 : -9223372036854775808 ≤ b) (b1 : b < 9223372036854775808) (c0 : -9223372036854775808 ≤ c) (c1 : c < 9223372036854775808) : Ca d k 176 [.long (i64 a), .long (i64 b), .long (i64 c)] h Q = Q (.inl (some (.int (i32 (if b ≤ a ∧ a ≤ c then 1 else 0))))) h := by
  rw [n176 _ _ _ _ _ _ _ hk]
  have e1 := i64_lt a0 a1 b0 b1
  have e2 := i64_lt c0 c1 a0 a1
  by_cases h1 : a < b
  · rw [if_neg (by omega)]
    simp (disch := (first | assumption | omega | exact Nat.le_of_ble_eq_true rfl | rfl)) only [w176_0, w176_1, w176_2, w176_6, w176_7, w176_9, w176_13, w176_14, w176_17, w176_18, Ko_n, Ko_v, vX_i, vX_r, vX_l, vX_j, reduceIte, e1, h1]
  · by_cases h2 : c < a
    · rw [if_neg (by omega)]
      simp (disch := (first | assumption | omega | exact Nat.le_of_ble_eq_true rfl | rfl)) only [w176_0, w176_1, w176_2, w176_6, w176_7, w176_9, w176_13, w176_14, w176_17, w176_18, Ko_n, Ko_v, vX_i, vX_r, vX_l, vX_j, reduceIte, e1, h1, e2, h2]
    · rw [if_pos (by omega)]
      simp (disch := (first | assumption | omega | exact Nat.le_of_ble_eq_true rfl | rfl)) only [w176_0, w176_1, w176_2, w176_6, w176_7, w176_9, w176_13, w176_14, w176_17, w176_18, Ko_n, Ko_v, vX_i, vX_r, vX_l, vX_j, reduceIte, e1, h1, e2, h2]
theorem c181 {d : Nat} {k c : Int} {h : vmH} {Q : vmO → vmH → Prop} (hk : 4 ≤ k) (c0 : 0 ≤ c) (c1 : c ≤ 255) : Ca d k 181 [.int (i32 c)] h Q = Q (.inl (some (.int (i32 (if 97 ≤ c ∧ c ≤ 122 then 1 else 0))))) h := by
  rw [n181 _ _ _ _ _ hk]
  by_cases h1 : c < 97
  · rw [if_neg (by omega)]
    simp (disch := (first | assumption | omega | exact Nat.le_of_ble_eq_true rfl | rfl)) only [w181_0, w181_1, w181_3, w181_6, w181_7, w181_9, w181_12, w181_13, w181_16, w181_17, Ko_n, Ko_v, vX_i, vX_r, vX_l, vX_j, reduceIte, h1]
  · by_cases h2 : 122 < c
    · rw [if_neg (by omega)]
      simp (disch := (first | assumption | omega | exact Nat.le_of_ble_eq_true rfl | rfl)) only [w181_0, w181_1, w181_3, w181_6, w181_7, w181_9, w181_12, w181_13, w181_16, w181_17, Ko_n, Ko_v, vX_i, vX_r, vX_l, vX_j, reduceIte, h1, h2]
    · rw [if_pos (by omega)]
      simp (disch := (first | assumption | omega | exact Nat.le_of_ble_eq_true rfl | rfl)) only [w181_0, w181_1, w181_3, w181_6, w181_7, w181_9, w181_12, w181_13, w181_16, w181_17, Ko_n, Ko_v, vX_i, vX_r, vX_l, vX_j, reduceIte, h1, h2]
theorem c182 {d : Nat} {k c : Int} {h : vmH} {Q : vmO → vmH → Prop} (hk : 4 ≤ k) (c0 : 0 ≤ c) (c1 : c ≤ 255) : Ca d k 182 [.int (i32 c)] h Q = Q (.inl (some (.int (i32 (if 48 ≤ c ∧ c ≤ 57 then 1 else 0))))) h := by
  rw [n182 _ _ _ _ _ hk]
  by_cases h1 : c < 48
  · rw [if_neg (by omega)]
    simp (disch := (first | assumption | omega | exact Nat.le_of_ble_eq_true rfl | rfl)) only [w182_0, w182_1, w182_3, w182_6, w182_7, w182_9, w182_12, w182_13, w182_16, w182_17, Ko_n, Ko_v, vX_i, vX_r, vX_l, vX_j, reduceIte, h1]
  · by_cases h2 : 57 < c
    · rw [if_neg (by omega)]
      simp (disch := (first | assumption | omega | exact Nat.le_of_ble_eq_true rfl | rfl)) only [w182_0, w182_1, w182_3, w182_6, w182_7, w182_9, w182_12, w182_13, w182_16, w182_17, Ko_n, Ko_v, vX_i, vX_r, vX_l, vX_j, reduceIte, h1, h2]
    · rw [if_pos (by omega)]
      simp (disch := (first | assumption | omega | exact Nat.le_of_ble_eq_true rfl | rfl)) only [w182_0, w182_1, w182_3, w182_6, w182_7, w182_9, w182_12, w182_13, w182_16, w182_17, Ko_n, Ko_v, vX_i, vX_r, vX_l, vX_j, reduceIte, h1, h2]
theorem c183 {d : Nat} {k c : Int} {h : vmH} {Q : vmO → vmH → Prop} (hk : 4 ≤ k) (c0 : 0 ≤ c) (c1 : c ≤ 255) : Ca d k 183 [.int (i32 c)] h Q = Q (.inl (some (.int (i32 (if sgB c then 1 else 0))))) h := by
  rw [n183 _ _ _ _ _ hk]
  by_cases h1 : c = 91 ∨ c = 93 ∨ c = 61 ∨ c = 60 ∨ c = 62 ∨ c = 59 ∨ c = 43 ∨ c = 45 ∨ c = 42 ∨ c = 40 ∨ c = 41
  · rw [show sgB c = true from decide_eq_true h1]
    rcases h1 with rfl | rfl | rfl | rfl | rfl | rfl | rfl | rfl | rfl | rfl | rfl <;> simp (disch := (first | assumption | omega | exact Nat.le_of_ble_eq_true rfl | rfl)) only [w183_0, w183_1, w183_3, w183_6, w183_7, w183_9, w183_12, w183_13, w183_15, w183_18, w183_19, w183_21, w183_24, w183_25, w183_27, w183_30, w183_31, w183_34, w183_35, w183_36, w183_37, w183_40, w183_41, w183_43, w183_46, w183_47, w183_49, w183_52, w183_53, w183_55, w183_58, w183_59, w183_61, w183_64, w183_65, w183_67, w183_70, w183_71, w183_73, w183_76, w183_77, w183_80, w183_81, Ko_n, Ko_v, vX_i, vX_r, vX_l, vX_j, reduceIte, Int.reduceEq, not_true, not_false_eq_true]
  · rw [show sgB c = false from decide_eq_false h1]
    simp only [not_or] at h1
    obtain ⟨h1, h2, h3, h4, h5, h6, h7, h8, h9, h10, h11⟩ := h1
    simp (disch := (first | assumption | omega | exact Nat.le_of_ble_eq_true rfl | rfl)) only [w183_0, w183_1, w183_3, w183_6, w183_7, w183_9, w183_12, w183_13, w183_15, w183_18, w183_19, w183_21, w183_24, w183_25, w183_27, w183_30, w183_31, w183_34, w183_35, w183_36, w183_37, w183_40, w183_41, w183_43, w183_46, w183_47, w183_49, w183_52, w183_53, w183_55, w183_58, w183_59, w183_61, w183_64, w183_65, w183_67, w183_70, w183_71, w183_73, w183_76, w183_77, w183_80, w183_81, Ko_n, Ko_v, vX_i, vX_r, vX_l, vX_j, reduceIte, h1, h2, h3, h4, h5, h6, h7, h8, h9, h10, h11, Int.reduceEq, not_true, not_false_eq_true, Bool.false_eq_true]
theorem c180 {d : Nat} {k z n : Int} {f : Int → Int} {T : Tt} {σ : St} {s : Ps} {Q : vmO → vmH → Prop} (hF : σ 1205 382 = f) (hn : σ 1207 382 0 = n) (hf : tpOk f n) (z0 : 0 ≤ z) (z1 : z ≤ n) : Ca d k 180 [.ref 382, .int (i32 z)] (E T (pS σ s)) Q = Q (.inl (some (.int (i32 (if z < n then f z else 0))))) (E T (pS σ s)) := by
  have h0 := ob_md
  have hn9 := hf.2
  rw [n180 _ _ _ _ _ _ _ h0]
  by_cases h1 : n ≤ z
  · rw [if_neg (by omega)]
    simp (disch := (first | assumption | omega | exact Nat.le_of_ble_eq_true rfl | rfl)) only [w180_0, w180_1, w180_2, w180_5, w180_8, w180_9, w180_12, w180_13, w180_14, w180_17, w180_18, Ko_n, Ko_v, vX_i, vX_r, vX_l, vX_j, reduceIte, pS_n, hn, h1]
  · rw [if_pos (by omega)]
    simp (disch := (first | assumption | omega | exact Nat.le_of_ble_eq_true rfl | rfl)) only [w180_0, w180_1, w180_2, w180_5, w180_8, w180_9, w180_12, w180_13, w180_14, w180_17, w180_18, Ko_n, Ko_v, vX_i, vX_r, vX_l, vX_j, reduceIte, pS_n, pS_f, hn, hF, h1]
def stH (p : Int) (s : Ps) : Ps := (pB s, pP s, pG s, p, pT s, pV s, pD s, pK s)
theorem L184a {d : Nat} {n : Int} {f : Int → Int} {T : Tt} {σ : St} {Q : vmO → vmH → Prop} (hF : σ 1205 382 = f) (hn : σ 1207 382 0 = n) (hf : tpOk f n) : ∀ (m : Nat) (s : Ps), 0 ≤ pH s → pH s ≤ n → n - pH s ≤ m → Wp d M_X12_readsOn 0 [.ref 382, vmJ] [] (E T (pS σ s)) Q = Wp d M_X12_readsOn 52 [.ref 382, vmJ] [] (E T (pS σ (stH (skp f n m (pH s)) s))) Q := by
  have h0 := ob_md
  have hn9 := hf.2
  intro m
  induction m with
  | zero =>
    intro s s0 s1 hm
    simp (disch := omega) only [w184_0]
    simp (disch := (first | assumption | omega | exact Nat.le_of_ble_eq_true rfl | rfl)) only [w184_1, w184_4, w184_5, w184_8, w184_11, w184_12, w184_15, w184_16, w184_19, w184_20, w184_22, w184_25, w184_26, w184_29, w184_30, w184_33, w184_34, w184_36, w184_39, w184_40, w184_41, w184_44, w184_45, w184_46, w184_49, Ko_n, Ko_v, vX_i, vX_r, vX_l, vX_j, reduceIte, pS_H, pS_n, hn, show n ≤ pH s by omega]
    rfl
  | succ m ih =>
    intro s s0 s1 hm
    simp (disch := omega) only [w184_0]
    by_cases h1 : n ≤ pH s
    · simp only [skp]
      rw [if_neg (by omega)]
      simp (disch := (first | assumption | omega | exact Nat.le_of_ble_eq_true rfl | rfl)) only [w184_1, w184_4, w184_5, w184_8, w184_11, w184_12, w184_15, w184_16, w184_19, w184_20, w184_22, w184_25, w184_26, w184_29, w184_30, w184_33, w184_34, w184_36, w184_39, w184_40, w184_41, w184_44, w184_45, w184_46, w184_49, Ko_n, Ko_v, vX_i, vX_r, vX_l, vX_j, reduceIte, pS_H, pS_n, hn, h1]
      rfl
    · have hb := hf.1 (pH s) s0 (by omega)
      have ih' := ih (stH (pH s + 1) s) (by show 0 ≤ pH s + 1; omega) (by show pH s + 1 ≤ n; omega) (by show n - (pH s + 1) ≤ m; omega)
      by_cases h2 : f (pH s) = 32
      · simp only [skp]
        rw [if_pos ⟨by omega, Or.inl h2⟩]
        simp (disch := (first | assumption | omega | exact Nat.le_of_ble_eq_true rfl | rfl)) only [w184_1, w184_4, w184_5, w184_8, w184_11, w184_12, w184_15, w184_16, w184_19, w184_20, w184_22, w184_25, w184_26, w184_29, w184_30, w184_33, w184_34, w184_36, w184_39, w184_40, w184_41, w184_44, w184_45, w184_46, w184_49, Ko_n, Ko_v, vX_i, vX_r, vX_l, vX_j, reduceIte, pS_H, pS_n, pS_f, hF, hn, h1, h2, pS_uH]
        exact ih'
      · by_cases h3 : f (pH s) = 10
        · simp only [skp]
          rw [if_pos ⟨by omega, Or.inr h3⟩]
          simp (disch := (first | assumption | omega | exact Nat.le_of_ble_eq_true rfl | rfl)) only [w184_1, w184_4, w184_5, w184_8, w184_11, w184_12, w184_15, w184_16, w184_19, w184_20, w184_22, w184_25, w184_26, w184_29, w184_30, w184_33, w184_34, w184_36, w184_39, w184_40, w184_41, w184_44, w184_45, w184_46, w184_49, Ko_n, Ko_v, vX_i, vX_r, vX_l, vX_j, reduceIte, pS_H, pS_n, pS_f, hF, hn, h1, h2, h3, pS_uH, not_true, Int.reduceEq]
          exact ih'
        · simp only [skp]
          rw [if_neg (fun w => by rcases w.2 with e | e; exact h2 e; exact h3 e)]
          simp (disch := (first | assumption | omega | exact Nat.le_of_ble_eq_true rfl | rfl)) only [w184_1, w184_4, w184_5, w184_8, w184_11, w184_12, w184_15, w184_16, w184_19, w184_20, w184_22, w184_25, w184_26, w184_29, w184_30, w184_33, w184_34, w184_36, w184_39, w184_40, w184_41, w184_44, w184_45, w184_46, w184_49, Ko_n, Ko_v, vX_i, vX_r, vX_l, vX_j, reduceIte, pS_H, pS_n, pS_f, hF, hn, h1, h2, h3, pS_uH, not_false_eq_true]
          rfl
theorem L184b {d : Nat} {n : Int} {f : Int → Int} {T : Tt} {σ : St} {Q : vmO → vmH → Prop} {l1 : Value} (hF : σ 1205 382 = f) (hn : σ 1207 382 0 = n) (hf : tpOk f n) : ∀ (m : Nat) (s : Ps), 0 ≤ pH s → pH s ≤ n → n - pH s ≤ m → Wp (d + 1) M_X12_readsOn 94 [.ref 382, l1] [] (E T (pS σ s)) Q = Wp (d + 1) M_X12_readsOn 121 [.ref 382, l1] [] (E T (pS σ (stH (ero f n 97 122 m (pH s)) s))) Q := by
  have h0 := ob_md
  have hn9 := hf.2
  intro m
  induction m with
  | zero =>
    intro s s0 s1 hm
    simp (disch := omega) only [w184_94]
    simp (disch := (first | assumption | omega | exact Nat.le_of_ble_eq_true rfl | rfl)) only [w184_95, w184_96, w184_99, w184_102, w184_105, w184_108, w184_109, w184_110, w184_113, w184_114, w184_115, w184_118, Ko_n, Ko_v, vX_i, vX_r, vX_l, vX_j, reduceIte, pS_H]
    rw [c180 hF hn hf s0 s1, if_neg (by omega)]
    simp (disch := (first | assumption | omega | exact Nat.le_of_ble_eq_true rfl | rfl)) only [w184_95, w184_96, w184_99, w184_102, w184_105, w184_108, w184_109, w184_110, w184_113, w184_114, w184_115, w184_118, Ko_n, Ko_v, vX_i, vX_r, vX_l, vX_j, reduceIte]
    rw [c181 (by omega) (by omega) (by omega), if_neg (by omega)]
    simp (disch := (first | assumption | omega | exact Nat.le_of_ble_eq_true rfl | rfl)) only [w184_95, w184_96, w184_99, w184_102, w184_105, w184_108, w184_109, w184_110, w184_113, w184_114, w184_115, w184_118, Ko_n, Ko_v, vX_i, vX_r, vX_l, vX_j, reduceIte]
    rfl
  | succ m ih =>
    intro s s0 s1 hm
    simp (disch := omega) only [w184_94]
    simp (disch := (first | assumption | omega | exact Nat.le_of_ble_eq_true rfl | rfl)) only [w184_95, w184_96, w184_99, w184_102, w184_105, w184_108, w184_109, w184_110, w184_113, w184_114, w184_115, w184_118, Ko_n, Ko_v, vX_i, vX_r, vX_l, vX_j, reduceIte, pS_H]
    rw [c180 hF hn hf s0 s1]
    by_cases h1 : n ≤ pH s
    · rw [if_neg (by omega)]
      simp only [ero]
      rw [if_neg (by omega)]
      simp (disch := (first | assumption | omega | exact Nat.le_of_ble_eq_true rfl | rfl)) only [w184_95, w184_96, w184_99, w184_102, w184_105, w184_108, w184_109, w184_110, w184_113, w184_114, w184_115, w184_118, Ko_n, Ko_v, vX_i, vX_r, vX_l, vX_j, reduceIte]
      rw [c181 (by omega) (by omega) (by omega), if_neg (by omega)]
      simp (disch := (first | assumption | omega | exact Nat.le_of_ble_eq_true rfl | rfl)) only [w184_95, w184_96, w184_99, w184_102, w184_105, w184_108, w184_109, w184_110, w184_113, w184_114, w184_115, w184_118, Ko_n, Ko_v, vX_i, vX_r, vX_l, vX_j, reduceIte]
      rfl
    · rw [if_pos (by omega)]
      have hb := hf.1 (pH s) s0 (by omega)
      have ih' := ih (stH (pH s + 1) s) (by show 0 ≤ pH s + 1; omega) (by show pH s + 1 ≤ n; omega) (by show n - (pH s + 1) ≤ m; omega)
      simp (disch := (first | assumption | omega | exact Nat.le_of_ble_eq_true rfl | rfl)) only [w184_95, w184_96, w184_99, w184_102, w184_105, w184_108, w184_109, w184_110, w184_113, w184_114, w184_115, w184_118, Ko_n, Ko_v, vX_i, vX_r, vX_l, vX_j, reduceIte]
      rw [c181 (by omega) hb.1 hb.2]
      by_cases h2 : 97 ≤ f (pH s) ∧ f (pH s) ≤ 122
      · simp only [ero]
        rw [if_pos h2, if_pos ⟨by omega, h2⟩]
        simp (disch := (first | assumption | omega | exact Nat.le_of_ble_eq_true rfl | rfl)) only [w184_95, w184_96, w184_99, w184_102, w184_105, w184_108, w184_109, w184_110, w184_113, w184_114, w184_115, w184_118, Ko_n, Ko_v, vX_i, vX_r, vX_l, vX_j, reduceIte, pS_H, pS_uH, Int.reduceEq]
        exact ih'
      · simp only [ero]
        rw [if_neg h2, if_neg (fun w => h2 w.2)]
        simp (disch := (first | assumption | omega | exact Nat.le_of_ble_eq_true rfl | rfl)) only [w184_95, w184_96, w184_99, w184_102, w184_105, w184_108, w184_109, w184_110, w184_113, w184_114, w184_115, w184_118, Ko_n, Ko_v, vX_i, vX_r, vX_l, vX_j, reduceIte]
        rfl
/-- a number's first digits -/
def stV (p v : Int) (s : Ps) : Ps := (pB s, pP s, pG s, p, pT s, v, pD s, pK s)
theorem L184c {d : Nat} {n : Int} {f : Int → Int} {T : Tt} {σ : St} {Q : vmO → vmH → Prop} {l1 : Value} (hF : σ 1205 382 = f) (hn : σ 1207 382 0 = n) (hf : tpOk f n) : ∀ (m : Nat) (s : Ps), 0 ≤ pG s → pG s ≤ pH s → pH s ≤ n → n - pH s ≤ m → pV s = dgv f (pG s) (min 3 (pH s - pG s)).toNat → Wp (d + 1) M_X12_readsOn 141 [.ref 382, l1] [] (E T (pS σ s)) Q = Wp (d + 1) M_X12_readsOn 212 [.ref 382, l1] [] (E T (pS σ (stV (ero f n 48 57 m (pH s)) (dgv f (pG s) (min 3 (ero f n 48 57 m (pH s) - pG s)).toNat) s))) Q := by
  have h0 := ob_md
  have hn9 := hf.2
  intro m
  induction m with
  | zero =>
    intro s s00 s0 s1 hm hv
    simp (disch := omega) only [w184_141]
    simp (disch := (first | assumption | omega | exact Nat.le_of_ble_eq_true rfl | rfl)) only [w184_142, w184_143, w184_146, w184_149, w184_152, w184_155, w184_156, w184_157, w184_160, w184_161, w184_164, w184_165, w184_166, w184_169, w184_171, w184_172, w184_175, w184_176, w184_177, w184_180, w184_181, w184_184, w184_185, w184_186, w184_188, w184_189, w184_192, w184_193, w184_196, w184_199, w184_200, w184_201, w184_204, w184_205, w184_206, w184_209, Ko_n, Ko_v, vX_i, vX_r, vX_l, vX_j, reduceIte, pS_H]
    rw [c180 hF hn hf (by omega) s1, if_neg (by omega)]
    simp (disch := (first | assumption | omega | exact Nat.le_of_ble_eq_true rfl | rfl)) only [w184_142, w184_143, w184_146, w184_149, w184_152, w184_155, w184_156, w184_157, w184_160, w184_161, w184_164, w184_165, w184_166, w184_169, w184_171, w184_172, w184_175, w184_176, w184_177, w184_180, w184_181, w184_184, w184_185, w184_186, w184_188, w184_189, w184_192, w184_193, w184_196, w184_199, w184_200, w184_201, w184_204, w184_205, w184_206, w184_209, Ko_n, Ko_v, vX_i, vX_r, vX_l, vX_j, reduceIte]
    rw [c182 (by omega) (by omega) (by omega), if_neg (by omega)]
    simp (disch := (first | assumption | omega | exact Nat.le_of_ble_eq_true rfl | rfl)) only [w184_142, w184_143, w184_146, w184_149, w184_152, w184_155, w184_156, w184_157, w184_160, w184_161, w184_164, w184_165, w184_166, w184_169, w184_171, w184_172, w184_175, w184_176, w184_177, w184_180, w184_181, w184_184, w184_185, w184_186, w184_188, w184_189, w184_192, w184_193, w184_196, w184_199, w184_200, w184_201, w184_204, w184_205, w184_206, w184_209, Ko_n, Ko_v, vX_i, vX_r, vX_l, vX_j, reduceIte]
    simp only [ero]
    rw [← hv]
    rfl
  | succ m ih =>
    intro s s00 s0 s1 hm hv
    simp (disch := omega) only [w184_141]
    simp (disch := (first | assumption | omega | exact Nat.le_of_ble_eq_true rfl | rfl)) only [w184_142, w184_143, w184_146, w184_149, w184_152, w184_155, w184_156, w184_157, w184_160, w184_161, w184_164, w184_165, w184_166, w184_169, w184_171, w184_172, w184_175, w184_176, w184_177, w184_180, w184_181, w184_184, w184_185, w184_186, w184_188, w184_189, w184_192, w184_193, w184_196, w184_199, w184_200, w184_201, w184_204, w184_205, w184_206, w184_209, Ko_n, Ko_v, vX_i, vX_r, vX_l, vX_j, reduceIte, pS_H]
    rw [c180 hF hn hf (by omega) s1]
    by_cases h1 : n ≤ pH s
    · rw [if_neg (by omega)]
      simp only [ero]
      rw [if_neg (by omega), ← hv]
      simp (disch := (first | assumption | omega | exact Nat.le_of_ble_eq_true rfl | rfl)) only [w184_142, w184_143, w184_146, w184_149, w184_152, w184_155, w184_156, w184_157, w184_160, w184_161, w184_164, w184_165, w184_166, w184_169, w184_171, w184_172, w184_175, w184_176, w184_177, w184_180, w184_181, w184_184, w184_185, w184_186, w184_188, w184_189, w184_192, w184_193, w184_196, w184_199, w184_200, w184_201, w184_204, w184_205, w184_206, w184_209, Ko_n, Ko_v, vX_i, vX_r, vX_l, vX_j, reduceIte]
      rw [c182 (by omega) (by omega) (by omega), if_neg (by omega)]
      simp (disch := (first | assumption | omega | exact Nat.le_of_ble_eq_true rfl | rfl)) only [w184_142, w184_143, w184_146, w184_149, w184_152, w184_155, w184_156, w184_157, w184_160, w184_161, w184_164, w184_165, w184_166, w184_169, w184_171, w184_172, w184_175, w184_176, w184_177, w184_180, w184_181, w184_184, w184_185, w184_186, w184_188, w184_189, w184_192, w184_193, w184_196, w184_199, w184_200, w184_201, w184_204, w184_205, w184_206, w184_209, Ko_n, Ko_v, vX_i, vX_r, vX_l, vX_j, reduceIte]
      rfl
    · rw [if_pos (by omega)]
      have hb := hf.1 (pH s) (by omega) (by omega)
      simp (disch := (first | assumption | omega | exact Nat.le_of_ble_eq_true rfl | rfl)) only [w184_142, w184_143, w184_146, w184_149, w184_152, w184_155, w184_156, w184_157, w184_160, w184_161, w184_164, w184_165, w184_166, w184_169, w184_171, w184_172, w184_175, w184_176, w184_177, w184_180, w184_181, w184_184, w184_185, w184_186, w184_188, w184_189, w184_192, w184_193, w184_196, w184_199, w184_200, w184_201, w184_204, w184_205, w184_206, w184_209, Ko_n, Ko_v, vX_i, vX_r, vX_l, vX_j, reduceIte]
      rw [c182 (by omega) hb.1 hb.2]
      by_cases h2 : 48 ≤ f (pH s) ∧ f (pH s) ≤ 57
      · simp only [ero]
        rw [if_pos h2, if_pos ⟨by omega, h2⟩]
        by_cases h3 : 3 ≤ pH s - pG s
        · have ih' := ih (stH (pH s + 1) s) (by show 0 ≤ pG s; omega) (by show pG s ≤ pH s + 1; omega) (by show pH s + 1 ≤ n; omega) (by show n - (pH s + 1) ≤ m; omega) (by show pV s = dgv f (pG s) (min 3 (pH s + 1 - pG s)).toNat; rw [hv, show min 3 (pH s - pG s) = 3 by omega, show min 3 (pH s + 1 - pG s) = 3 by omega])
          simp (disch := (first | assumption | omega | exact Nat.le_of_ble_eq_true rfl | rfl)) only [w184_142, w184_143, w184_146, w184_149, w184_152, w184_155, w184_156, w184_157, w184_160, w184_161, w184_164, w184_165, w184_166, w184_169, w184_171, w184_172, w184_175, w184_176, w184_177, w184_180, w184_181, w184_184, w184_185, w184_186, w184_188, w184_189, w184_192, w184_193, w184_196, w184_199, w184_200, w184_201, w184_204, w184_205, w184_206, w184_209, Ko_n, Ko_v, vX_i, vX_r, vX_l, vX_j, reduceIte, pS_H, pS_G, pS_V, pS_uH, pS_uV, pH_, Int.reduceEq, h3]
          exact ih'
        · have e : dgv f (pG s) (min 3 (pH s + 1 - pG s)).toNat = 10 * pV s + f (pH s) - 48 := by
            rw [hv, show (min 3 (pH s + 1 - pG s)).toNat = (min 3 (pH s - pG s)).toNat + 1 by omega]
            simp only [dgv]
            rw [show pG s + (((min 3 (pH s - pG s)).toNat : Nat) : Int) = pH s by omega]
          have ih' := ih (stV (pH s + 1) (10 * pV s + f (pH s) - 48) s) (by show 0 ≤ pG s; omega) (by show pG s ≤ pH s + 1; omega) (by show pH s + 1 ≤ n; omega) (by show n - (pH s + 1) ≤ m; omega) (by show 10 * pV s + f (pH s) - 48 = dgv f (pG s) (min 3 (pH s + 1 - pG s)).toNat; exact e.symm)
          simp (disch := (first | assumption | omega | exact Nat.le_of_ble_eq_true rfl | rfl)) only [w184_142, w184_143, w184_146, w184_149, w184_152, w184_155, w184_156, w184_157, w184_160, w184_161, w184_164, w184_165, w184_166, w184_169, w184_171, w184_172, w184_175, w184_176, w184_177, w184_180, w184_181, w184_184, w184_185, w184_186, w184_188, w184_189, w184_192, w184_193, w184_196, w184_199, w184_200, w184_201, w184_204, w184_205, w184_206, w184_209, Ko_n, Ko_v, vX_i, vX_r, vX_l, vX_j, reduceIte, pS_H, pS_G, pS_V, pS_f, hF, pS_uH, pS_uV, pH_, Int.reduceEq, h3]
          exact ih'
      · simp only [ero]
        rw [if_neg h2, if_neg (fun w => h2 w.2), ← hv]
        simp (disch := (first | assumption | omega | exact Nat.le_of_ble_eq_true rfl | rfl)) only [w184_142, w184_143, w184_146, w184_149, w184_152, w184_155, w184_156, w184_157, w184_160, w184_161, w184_164, w184_165, w184_166, w184_169, w184_171, w184_172, w184_175, w184_176, w184_177, w184_180, w184_181, w184_184, w184_185, w184_186, w184_188, w184_189, w184_192, w184_193, w184_196, w184_199, w184_200, w184_201, w184_204, w184_205, w184_206, w184_209, Ko_n, Ko_v, vX_i, vX_r, vX_l, vX_j, reduceIte]
        rfl
theorem skp_fu {f : Int → Int} {n : Int} : ∀ (m : Nat) (p : Int), n - p ≤ m → skp f n (m + 1) p = skp f n m p
  | 0, p, h => by simp only [skp]; rw [if_neg (by omega)]
  | m + 1, p, h => by
    rw [show skp f n (m + 1 + 1) p = if p < n ∧ (f p = 32 ∨ f p = 10) then skp f n (m + 1) (p + 1) else p from rfl, show skp f n (m + 1) p = if p < n ∧ (f p = 32 ∨ f p = 10) then skp f n m (p + 1) else p from rfl, skp_fu m (p + 1) (by omega)]
theorem c184g {d : Nat} {k n : Int} {f : Int → Int} {T : Tt} {σ : St} {s : Ps} {Q : vmO → vmH → Prop} (hF : σ 1205 382 = f) (hn : σ 1207 382 0 = n) (hf : tpOk f n) (p0 : 0 ≤ pH s) (p1 : pH s ≤ n) : Ca (d + 2) k 184 [.ref 382] (E T (pS σ s)) Q = Q (.inl none) (E T (pS σ (rdOn f n s))) := by
  have h0 := ob_md
  have hn9 := hf.2
  rw [n184 _ _ _ _ _ _ h0, L184a hF hn hf 900 s (by omega) (by omega) (by omega)]
  have hk := skp_in (f := f) (n := n) 900 (pH s)
  unfold rdOn
  generalize hb : skp f n 900 (pH s) = b at *
  have b1 := hk.2 p1
  unfold tok stH
  by_cases e1 : n ≤ b
  · rw [if_pos e1]
    simp (disch := (first | assumption | omega | exact Nat.le_of_ble_eq_true rfl | rfl)) only [w184_1, w184_4, w184_5, w184_8, w184_11, w184_12, w184_15, w184_16, w184_19, w184_20, w184_22, w184_25, w184_26, w184_29, w184_30, w184_33, w184_34, w184_36, w184_39, w184_40, w184_41, w184_44, w184_45, w184_46, w184_49, w184_52, w184_53, w184_54, w184_57, w184_60, w184_61, w184_64, w184_65, w184_68, w184_71, w184_72, w184_73, w184_76, w184_77, w184_78, w184_81, w184_82, w184_85, w184_86, w184_87, w184_88, w184_91, w184_95, w184_96, w184_99, w184_102, w184_105, w184_108, w184_109, w184_110, w184_113, w184_114, w184_115, w184_118, w184_121, w184_122, w184_123, w184_126, w184_129, w184_130, w184_133, w184_136, w184_137, w184_138, w184_142, w184_143, w184_146, w184_149, w184_152, w184_155, w184_156, w184_157, w184_160, w184_161, w184_164, w184_165, w184_166, w184_169, w184_171, w184_172, w184_175, w184_176, w184_177, w184_180, w184_181, w184_184, w184_185, w184_186, w184_188, w184_189, w184_192, w184_193, w184_196, w184_199, w184_200, w184_201, w184_204, w184_205, w184_206, w184_209, w184_212, w184_213, w184_214, w184_217, w184_218, w184_221, w184_222, w184_223, w184_226, w184_227, w184_230, w184_231, w184_234, w184_237, w184_238, w184_239, w184_242, w184_245, w184_246, w184_249, w184_250, w184_253, w184_254, w184_255, w184_258, w184_259, w184_260, w184_263, Ko_n, Ko_v, vX_i, vX_r, vX_l, vX_j, reduceIte, pS_H, pS_uG, pS_n, pS_uT, pH_, hn, show ¬ b < n by omega, pB_, pP_, pG_, pT_, pV_, pD_, pK_]
  · rw [if_neg e1]
    have hfb := hf.1 b (by omega) (by omega)
    simp (disch := (first | assumption | omega | exact Nat.le_of_ble_eq_true rfl | rfl)) only [w184_1, w184_4, w184_5, w184_8, w184_11, w184_12, w184_15, w184_16, w184_19, w184_20, w184_22, w184_25, w184_26, w184_29, w184_30, w184_33, w184_34, w184_36, w184_39, w184_40, w184_41, w184_44, w184_45, w184_46, w184_49, w184_52, w184_53, w184_54, w184_57, w184_60, w184_61, w184_64, w184_65, w184_68, w184_71, w184_72, w184_73, w184_76, w184_77, w184_78, w184_81, w184_82, w184_85, w184_86, w184_87, w184_88, w184_91, w184_95, w184_96, w184_99, w184_102, w184_105, w184_108, w184_109, w184_110, w184_113, w184_114, w184_115, w184_118, w184_121, w184_122, w184_123, w184_126, w184_129, w184_130, w184_133, w184_136, w184_137, w184_138, w184_142, w184_143, w184_146, w184_149, w184_152, w184_155, w184_156, w184_157, w184_160, w184_161, w184_164, w184_165, w184_166, w184_169, w184_171, w184_172, w184_175, w184_176, w184_177, w184_180, w184_181, w184_184, w184_185, w184_186, w184_188, w184_189, w184_192, w184_193, w184_196, w184_199, w184_200, w184_201, w184_204, w184_205, w184_206, w184_209, w184_212, w184_213, w184_214, w184_217, w184_218, w184_221, w184_222, w184_223, w184_226, w184_227, w184_230, w184_231, w184_234, w184_237, w184_238, w184_239, w184_242, w184_245, w184_246, w184_249, w184_250, w184_253, w184_254, w184_255, w184_258, w184_259, w184_260, w184_263, Ko_n, Ko_v, vX_i, vX_r, vX_l, vX_j, reduceIte, pS_H, pS_uG, pS_n, pS_f, hF, pH_, hn, show b < n by omega, pB_, pP_, pG_, pT_, pV_, pD_, pK_]
    rw [c181 (by omega) hfb.1 hfb.2]
    by_cases e2 : 97 ≤ f b ∧ f b ≤ 122
    · rw [if_pos e2, if_pos e2]
      simp (disch := (first | assumption | omega | exact Nat.le_of_ble_eq_true rfl | rfl)) only [w184_1, w184_4, w184_5, w184_8, w184_11, w184_12, w184_15, w184_16, w184_19, w184_20, w184_22, w184_25, w184_26, w184_29, w184_30, w184_33, w184_34, w184_36, w184_39, w184_40, w184_41, w184_44, w184_45, w184_46, w184_49, w184_52, w184_53, w184_54, w184_57, w184_60, w184_61, w184_64, w184_65, w184_68, w184_71, w184_72, w184_73, w184_76, w184_77, w184_78, w184_81, w184_82, w184_85, w184_86, w184_87, w184_88, w184_91, w184_95, w184_96, w184_99, w184_102, w184_105, w184_108, w184_109, w184_110, w184_113, w184_114, w184_115, w184_118, w184_121, w184_122, w184_123, w184_126, w184_129, w184_130, w184_133, w184_136, w184_137, w184_138, w184_142, w184_143, w184_146, w184_149, w184_152, w184_155, w184_156, w184_157, w184_160, w184_161, w184_164, w184_165, w184_166, w184_169, w184_171, w184_172, w184_175, w184_176, w184_177, w184_180, w184_181, w184_184, w184_185, w184_186, w184_188, w184_189, w184_192, w184_193, w184_196, w184_199, w184_200, w184_201, w184_204, w184_205, w184_206, w184_209, w184_212, w184_213, w184_214, w184_217, w184_218, w184_221, w184_222, w184_223, w184_226, w184_227, w184_230, w184_231, w184_234, w184_237, w184_238, w184_239, w184_242, w184_245, w184_246, w184_249, w184_250, w184_253, w184_254, w184_255, w184_258, w184_259, w184_260, w184_263, Ko_n, Ko_v, vX_i, vX_r, vX_l, vX_j, reduceIte, Int.reduceEq]
      rw [L184b hF hn hf 900 _ (by show 0 ≤ b; omega) (by show b ≤ n; omega) (by show n - b ≤ 900; omega)]
      simp (disch := (first | assumption | omega | exact Nat.le_of_ble_eq_true rfl | rfl)) only [w184_1, w184_4, w184_5, w184_8, w184_11, w184_12, w184_15, w184_16, w184_19, w184_20, w184_22, w184_25, w184_26, w184_29, w184_30, w184_33, w184_34, w184_36, w184_39, w184_40, w184_41, w184_44, w184_45, w184_46, w184_49, w184_52, w184_53, w184_54, w184_57, w184_60, w184_61, w184_64, w184_65, w184_68, w184_71, w184_72, w184_73, w184_76, w184_77, w184_78, w184_81, w184_82, w184_85, w184_86, w184_87, w184_88, w184_91, w184_95, w184_96, w184_99, w184_102, w184_105, w184_108, w184_109, w184_110, w184_113, w184_114, w184_115, w184_118, w184_121, w184_122, w184_123, w184_126, w184_129, w184_130, w184_133, w184_136, w184_137, w184_138, w184_142, w184_143, w184_146, w184_149, w184_152, w184_155, w184_156, w184_157, w184_160, w184_161, w184_164, w184_165, w184_166, w184_169, w184_171, w184_172, w184_175, w184_176, w184_177, w184_180, w184_181, w184_184, w184_185, w184_186, w184_188, w184_189, w184_192, w184_193, w184_196, w184_199, w184_200, w184_201, w184_204, w184_205, w184_206, w184_209, w184_212, w184_213, w184_214, w184_217, w184_218, w184_221, w184_222, w184_223, w184_226, w184_227, w184_230, w184_231, w184_234, w184_237, w184_238, w184_239, w184_242, w184_245, w184_246, w184_249, w184_250, w184_253, w184_254, w184_255, w184_258, w184_259, w184_260, w184_263, Ko_n, Ko_v, vX_i, vX_r, vX_l, vX_j, reduceIte, stH, pS_uT, pH_, pB_, pP_, pG_, pT_, pV_, pD_, pK_]
    · rw [if_neg e2, if_neg e2]
      simp (disch := (first | assumption | omega | exact Nat.le_of_ble_eq_true rfl | rfl)) only [w184_1, w184_4, w184_5, w184_8, w184_11, w184_12, w184_15, w184_16, w184_19, w184_20, w184_22, w184_25, w184_26, w184_29, w184_30, w184_33, w184_34, w184_36, w184_39, w184_40, w184_41, w184_44, w184_45, w184_46, w184_49, w184_52, w184_53, w184_54, w184_57, w184_60, w184_61, w184_64, w184_65, w184_68, w184_71, w184_72, w184_73, w184_76, w184_77, w184_78, w184_81, w184_82, w184_85, w184_86, w184_87, w184_88, w184_91, w184_95, w184_96, w184_99, w184_102, w184_105, w184_108, w184_109, w184_110, w184_113, w184_114, w184_115, w184_118, w184_121, w184_122, w184_123, w184_126, w184_129, w184_130, w184_133, w184_136, w184_137, w184_138, w184_142, w184_143, w184_146, w184_149, w184_152, w184_155, w184_156, w184_157, w184_160, w184_161, w184_164, w184_165, w184_166, w184_169, w184_171, w184_172, w184_175, w184_176, w184_177, w184_180, w184_181, w184_184, w184_185, w184_186, w184_188, w184_189, w184_192, w184_193, w184_196, w184_199, w184_200, w184_201, w184_204, w184_205, w184_206, w184_209, w184_212, w184_213, w184_214, w184_217, w184_218, w184_221, w184_222, w184_223, w184_226, w184_227, w184_230, w184_231, w184_234, w184_237, w184_238, w184_239, w184_242, w184_245, w184_246, w184_249, w184_250, w184_253, w184_254, w184_255, w184_258, w184_259, w184_260, w184_263, Ko_n, Ko_v, vX_i, vX_r, vX_l, vX_j, reduceIte]
      rw [c182 (by omega) hfb.1 hfb.2]
      by_cases e3 : 48 ≤ f b ∧ f b ≤ 57
      · rw [if_pos e3, if_pos e3]
        simp (disch := (first | assumption | omega | exact Nat.le_of_ble_eq_true rfl | rfl)) only [w184_1, w184_4, w184_5, w184_8, w184_11, w184_12, w184_15, w184_16, w184_19, w184_20, w184_22, w184_25, w184_26, w184_29, w184_30, w184_33, w184_34, w184_36, w184_39, w184_40, w184_41, w184_44, w184_45, w184_46, w184_49, w184_52, w184_53, w184_54, w184_57, w184_60, w184_61, w184_64, w184_65, w184_68, w184_71, w184_72, w184_73, w184_76, w184_77, w184_78, w184_81, w184_82, w184_85, w184_86, w184_87, w184_88, w184_91, w184_95, w184_96, w184_99, w184_102, w184_105, w184_108, w184_109, w184_110, w184_113, w184_114, w184_115, w184_118, w184_121, w184_122, w184_123, w184_126, w184_129, w184_130, w184_133, w184_136, w184_137, w184_138, w184_142, w184_143, w184_146, w184_149, w184_152, w184_155, w184_156, w184_157, w184_160, w184_161, w184_164, w184_165, w184_166, w184_169, w184_171, w184_172, w184_175, w184_176, w184_177, w184_180, w184_181, w184_184, w184_185, w184_186, w184_188, w184_189, w184_192, w184_193, w184_196, w184_199, w184_200, w184_201, w184_204, w184_205, w184_206, w184_209, w184_212, w184_213, w184_214, w184_217, w184_218, w184_221, w184_222, w184_223, w184_226, w184_227, w184_230, w184_231, w184_234, w184_237, w184_238, w184_239, w184_242, w184_245, w184_246, w184_249, w184_250, w184_253, w184_254, w184_255, w184_258, w184_259, w184_260, w184_263, Ko_n, Ko_v, vX_i, vX_r, vX_l, vX_j, reduceIte, Int.reduceEq, pS_uV]
        have hE := (ero_in (f := f) (n := n) (a := 48) (b := 57) 900 b)
        rw [L184c hF hn hf 900 _ (by show 0 ≤ b; omega) (by show b ≤ b; omega) (by show b ≤ n; omega) (by show n - b ≤ 900; omega) (by show (0 : Int) = dgv f b (min 3 (b - b)).toNat; rw [show min 3 (b - b) = 0 by omega]; rfl)]
        simp only [pH_, pG_]
        have hE2 := hE.2 b1
        generalize ero f n 48 57 900 b = e at *
        by_cases h4 : e - b ≤ 3
        · rw [if_pos h4]
          simp (disch := (first | assumption | omega | exact Nat.le_of_ble_eq_true rfl | rfl)) only [w184_1, w184_4, w184_5, w184_8, w184_11, w184_12, w184_15, w184_16, w184_19, w184_20, w184_22, w184_25, w184_26, w184_29, w184_30, w184_33, w184_34, w184_36, w184_39, w184_40, w184_41, w184_44, w184_45, w184_46, w184_49, w184_52, w184_53, w184_54, w184_57, w184_60, w184_61, w184_64, w184_65, w184_68, w184_71, w184_72, w184_73, w184_76, w184_77, w184_78, w184_81, w184_82, w184_85, w184_86, w184_87, w184_88, w184_91, w184_95, w184_96, w184_99, w184_102, w184_105, w184_108, w184_109, w184_110, w184_113, w184_114, w184_115, w184_118, w184_121, w184_122, w184_123, w184_126, w184_129, w184_130, w184_133, w184_136, w184_137, w184_138, w184_142, w184_143, w184_146, w184_149, w184_152, w184_155, w184_156, w184_157, w184_160, w184_161, w184_164, w184_165, w184_166, w184_169, w184_171, w184_172, w184_175, w184_176, w184_177, w184_180, w184_181, w184_184, w184_185, w184_186, w184_188, w184_189, w184_192, w184_193, w184_196, w184_199, w184_200, w184_201, w184_204, w184_205, w184_206, w184_209, w184_212, w184_213, w184_214, w184_217, w184_218, w184_221, w184_222, w184_223, w184_226, w184_227, w184_230, w184_231, w184_234, w184_237, w184_238, w184_239, w184_242, w184_245, w184_246, w184_249, w184_250, w184_253, w184_254, w184_255, w184_258, w184_259, w184_260, w184_263, Ko_n, Ko_v, vX_i, vX_r, vX_l, vX_j, reduceIte, stV, pS_H, pS_G, pS_uT, pH_, pB_, pP_, pG_, pT_, pV_, pD_, pK_, h4]
        · rw [if_neg h4]
          simp (disch := (first | assumption | omega | exact Nat.le_of_ble_eq_true rfl | rfl)) only [w184_1, w184_4, w184_5, w184_8, w184_11, w184_12, w184_15, w184_16, w184_19, w184_20, w184_22, w184_25, w184_26, w184_29, w184_30, w184_33, w184_34, w184_36, w184_39, w184_40, w184_41, w184_44, w184_45, w184_46, w184_49, w184_52, w184_53, w184_54, w184_57, w184_60, w184_61, w184_64, w184_65, w184_68, w184_71, w184_72, w184_73, w184_76, w184_77, w184_78, w184_81, w184_82, w184_85, w184_86, w184_87, w184_88, w184_91, w184_95, w184_96, w184_99, w184_102, w184_105, w184_108, w184_109, w184_110, w184_113, w184_114, w184_115, w184_118, w184_121, w184_122, w184_123, w184_126, w184_129, w184_130, w184_133, w184_136, w184_137, w184_138, w184_142, w184_143, w184_146, w184_149, w184_152, w184_155, w184_156, w184_157, w184_160, w184_161, w184_164, w184_165, w184_166, w184_169, w184_171, w184_172, w184_175, w184_176, w184_177, w184_180, w184_181, w184_184, w184_185, w184_186, w184_188, w184_189, w184_192, w184_193, w184_196, w184_199, w184_200, w184_201, w184_204, w184_205, w184_206, w184_209, w184_212, w184_213, w184_214, w184_217, w184_218, w184_221, w184_222, w184_223, w184_226, w184_227, w184_230, w184_231, w184_234, w184_237, w184_238, w184_239, w184_242, w184_245, w184_246, w184_249, w184_250, w184_253, w184_254, w184_255, w184_258, w184_259, w184_260, w184_263, Ko_n, Ko_v, vX_i, vX_r, vX_l, vX_j, reduceIte, stV, pS_H, pS_G, pS_uT, pH_, pB_, pP_, pG_, pT_, pV_, pD_, pK_, h4]
      · rw [if_neg e3, if_neg e3]
        simp (disch := (first | assumption | omega | exact Nat.le_of_ble_eq_true rfl | rfl)) only [w184_1, w184_4, w184_5, w184_8, w184_11, w184_12, w184_15, w184_16, w184_19, w184_20, w184_22, w184_25, w184_26, w184_29, w184_30, w184_33, w184_34, w184_36, w184_39, w184_40, w184_41, w184_44, w184_45, w184_46, w184_49, w184_52, w184_53, w184_54, w184_57, w184_60, w184_61, w184_64, w184_65, w184_68, w184_71, w184_72, w184_73, w184_76, w184_77, w184_78, w184_81, w184_82, w184_85, w184_86, w184_87, w184_88, w184_91, w184_95, w184_96, w184_99, w184_102, w184_105, w184_108, w184_109, w184_110, w184_113, w184_114, w184_115, w184_118, w184_121, w184_122, w184_123, w184_126, w184_129, w184_130, w184_133, w184_136, w184_137, w184_138, w184_142, w184_143, w184_146, w184_149, w184_152, w184_155, w184_156, w184_157, w184_160, w184_161, w184_164, w184_165, w184_166, w184_169, w184_171, w184_172, w184_175, w184_176, w184_177, w184_180, w184_181, w184_184, w184_185, w184_186, w184_188, w184_189, w184_192, w184_193, w184_196, w184_199, w184_200, w184_201, w184_204, w184_205, w184_206, w184_209, w184_212, w184_213, w184_214, w184_217, w184_218, w184_221, w184_222, w184_223, w184_226, w184_227, w184_230, w184_231, w184_234, w184_237, w184_238, w184_239, w184_242, w184_245, w184_246, w184_249, w184_250, w184_253, w184_254, w184_255, w184_258, w184_259, w184_260, w184_263, Ko_n, Ko_v, vX_i, vX_r, vX_l, vX_j, reduceIte]
        rw [c183 (by omega) hfb.1 hfb.2]
        cases e4 : sgB (f b) with
        | true =>
          simp (disch := (first | assumption | omega | exact Nat.le_of_ble_eq_true rfl | rfl)) only [w184_1, w184_4, w184_5, w184_8, w184_11, w184_12, w184_15, w184_16, w184_19, w184_20, w184_22, w184_25, w184_26, w184_29, w184_30, w184_33, w184_34, w184_36, w184_39, w184_40, w184_41, w184_44, w184_45, w184_46, w184_49, w184_52, w184_53, w184_54, w184_57, w184_60, w184_61, w184_64, w184_65, w184_68, w184_71, w184_72, w184_73, w184_76, w184_77, w184_78, w184_81, w184_82, w184_85, w184_86, w184_87, w184_88, w184_91, w184_95, w184_96, w184_99, w184_102, w184_105, w184_108, w184_109, w184_110, w184_113, w184_114, w184_115, w184_118, w184_121, w184_122, w184_123, w184_126, w184_129, w184_130, w184_133, w184_136, w184_137, w184_138, w184_142, w184_143, w184_146, w184_149, w184_152, w184_155, w184_156, w184_157, w184_160, w184_161, w184_164, w184_165, w184_166, w184_169, w184_171, w184_172, w184_175, w184_176, w184_177, w184_180, w184_181, w184_184, w184_185, w184_186, w184_188, w184_189, w184_192, w184_193, w184_196, w184_199, w184_200, w184_201, w184_204, w184_205, w184_206, w184_209, w184_212, w184_213, w184_214, w184_217, w184_218, w184_221, w184_222, w184_223, w184_226, w184_227, w184_230, w184_231, w184_234, w184_237, w184_238, w184_239, w184_242, w184_245, w184_246, w184_249, w184_250, w184_253, w184_254, w184_255, w184_258, w184_259, w184_260, w184_263, Ko_n, Ko_v, vX_i, vX_r, vX_l, vX_j, reduceIte, Int.reduceEq, pS_uT, pS_H, pS_uH, pH_, pB_, pP_, pG_, pT_, pV_, pD_, pK_]
        | false =>
          simp (disch := (first | assumption | omega | exact Nat.le_of_ble_eq_true rfl | rfl)) only [w184_1, w184_4, w184_5, w184_8, w184_11, w184_12, w184_15, w184_16, w184_19, w184_20, w184_22, w184_25, w184_26, w184_29, w184_30, w184_33, w184_34, w184_36, w184_39, w184_40, w184_41, w184_44, w184_45, w184_46, w184_49, w184_52, w184_53, w184_54, w184_57, w184_60, w184_61, w184_64, w184_65, w184_68, w184_71, w184_72, w184_73, w184_76, w184_77, w184_78, w184_81, w184_82, w184_85, w184_86, w184_87, w184_88, w184_91, w184_95, w184_96, w184_99, w184_102, w184_105, w184_108, w184_109, w184_110, w184_113, w184_114, w184_115, w184_118, w184_121, w184_122, w184_123, w184_126, w184_129, w184_130, w184_133, w184_136, w184_137, w184_138, w184_142, w184_143, w184_146, w184_149, w184_152, w184_155, w184_156, w184_157, w184_160, w184_161, w184_164, w184_165, w184_166, w184_169, w184_171, w184_172, w184_175, w184_176, w184_177, w184_180, w184_181, w184_184, w184_185, w184_186, w184_188, w184_189, w184_192, w184_193, w184_196, w184_199, w184_200, w184_201, w184_204, w184_205, w184_206, w184_209, w184_212, w184_213, w184_214, w184_217, w184_218, w184_221, w184_222, w184_223, w184_226, w184_227, w184_230, w184_231, w184_234, w184_237, w184_238, w184_239, w184_242, w184_245, w184_246, w184_249, w184_250, w184_253, w184_254, w184_255, w184_258, w184_259, w184_260, w184_263, Ko_n, Ko_v, vX_i, vX_r, vX_l, vX_j, reduceIte, Int.reduceEq, Bool.false_eq_true, pS_uT, pS_H, pS_uH, pH_, pB_, pP_, pG_, pT_, pV_, pD_, pK_]
theorem c184 {d : Nat} {k n : Int} {f : Int → Int} {T : Tt} {σ : St} {s : Ps} {Q : vmO → vmH → Prop} (hF : σ 1205 382 = f) (hn : σ 1207 382 0 = n) (hf : tpOk f n) (hs : pO n s) : Ca (d + 2) k 184 [.ref 382] (E T (pS σ s)) Q = Q (.inl none) (E T (pS σ (rdOn f n s))) := c184g hF hn hf (by have := hs.2.2.1; omega) hs.2.2.1.2.2
theorem c185 {d : Nat} {k u n : Int} {T : Tt} {σ : St} {s : Ps} {Q : vmO → vmH → Prop} (hs : pO n s) : Ca d k 185 [.ref 382, .int (i32 u)] (E T (pS σ s)) Q = Q (.inl none) (E T (pS σ (blm u s))) := by
  have h0 := ob_md
  have h1 := hs.1
  have h2 := hs.2.1
  rw [n185 _ _ _ _ _ _ _ h0]
  unfold blm
  by_cases e : pB s = 0
  · rw [if_pos e]
    by_cases e2 : pT s = 3
    · rw [if_pos e2]
      simp (disch := (first | assumption | omega | exact Nat.le_of_ble_eq_true rfl | rfl)) only [w185_0, w185_1, w185_4, w185_7, w185_8, w185_9, w185_10, w185_13, w185_14, w185_17, w185_18, w185_21, w185_22, w185_25, w185_26, w185_27, w185_30, w185_33, Ko_n, Ko_v, vX_i, vX_r, vX_l, vX_j, reduceIte, pS_B, pS_T, pS_G, pS_uB, pS_uP, e, e2, not_true, pB_, pP_, pG_, pH_, pT_, pV_, pD_, pK_]
    · rw [if_neg e2]
      simp (disch := (first | assumption | omega | exact Nat.le_of_ble_eq_true rfl | rfl)) only [w185_0, w185_1, w185_4, w185_7, w185_8, w185_9, w185_10, w185_13, w185_14, w185_17, w185_18, w185_21, w185_22, w185_25, w185_26, w185_27, w185_30, w185_33, Ko_n, Ko_v, vX_i, vX_r, vX_l, vX_j, reduceIte, pS_B, pS_T, pS_G, pS_uB, pS_uP, e, e2, not_false_eq_true, pB_, pP_, pG_, pH_, pT_, pV_, pD_, pK_]
  · rw [if_neg e]
    simp (disch := (first | assumption | omega | exact Nat.le_of_ble_eq_true rfl | rfl)) only [w185_0, w185_1, w185_4, w185_7, w185_8, w185_9, w185_10, w185_13, w185_14, w185_17, w185_18, w185_21, w185_22, w185_25, w185_26, w185_27, w185_30, w185_33, Ko_n, Ko_v, vX_i, vX_r, vX_l, vX_j, reduceIte, pS_B, e]
