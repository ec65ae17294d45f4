/-! ===== Plan: what changes it ===== -/
def plC (σ : St) (p : Nat) : St := upA (upA (upA (upA (upA (upA (upA (upA (upA σ 400 p fun _ => 0) 401 p fun _ => 0) 402 p fun _ => 0) 403 p fun _ => 0) 404 p fun _ => 0) 405 p fun _ => 0) 301 (p + 4) fun _ => 0) 411 p fun _ => 0) 406 p (fil (σ 406 p) 5 0)
theorem pl_law : ∀ p, p < 406 → sh p = (2, 4, 0, 0, 0) → sh (p + 4) = (2, 3, 0, 0, 0) := by
  have : (List.range 406).all (fun p => !shq (sh p) (2, 4, 0, 0, 0) || shq (sh (p + 4)) (2, 3, 0, 0, 0)) = true := by decide +kernel
  intro p hp h
  have := List.all_eq_true.mp this p (List.mem_range.mpr hp)
  rw [h, shq_rf] at this
  exact shq_eq (by simpa using this)
theorem ob_law {p : Nat} (h : ob 4 p) : ob 3 (p + 4) := pl_law p (ob_lt h) h
theorem c25 {d : Nat} {k : Int} {r : Nat} {T : Tt} {σ : St} {Q : vmO → vmH → Prop} (hr : ob 4 r) : Ca (d + 1) k 25 [.ref r] (E T σ) Q = Q (.inl none) (E T (plC σ r)) := by
  have hr3 := ob_lt hr
  have hl := ob_law hr
  rw [n25 _ _ _ _ _ _ hr]
  unfold plC
  simp (disch := (first | assumption | omega | exact Nat.le_of_ble_eq_true rfl | rfl)) only [w25_0, w25_1, w25_2, w25_5, w25_6, w25_7, w25_10, w25_11, w25_12, w25_15, w25_16, w25_17, w25_20, w25_21, w25_22, w25_25, w25_26, w25_27, w25_30, w25_31, w25_34, w25_35, w25_38, w25_39, w25_40, w25_43, w25_44, w25_47, w25_48, w25_51, Ko_n, Ko_v, vX_i, vX_r, vX_l, vX_j, reduceIte]
  rw [c320 (by omega) (ok_406 r hr)]
  simp (disch := (first | assumption | omega | exact Nat.le_of_ble_eq_true rfl | rfl)) only [w25_0, w25_1, w25_2, w25_5, w25_6, w25_7, w25_10, w25_11, w25_12, w25_15, w25_16, w25_17, w25_20, w25_21, w25_22, w25_25, w25_26, w25_27, w25_30, w25_31, w25_34, w25_35, w25_38, w25_39, w25_40, w25_43, w25_44, w25_47, w25_48, w25_51, Ko_n, Ko_v, vX_i, vX_r, vX_l, vX_j, reduceIte, upA_t]
  rfl
def plW (σ : St) (p : Nat) (b : Bool) : St := upA (upA σ 405 p fun _ => if b then oo (σ 405 p 0) (sl 1 (σ 404 p 0)) else σ 405 p 0) 404 p fun _ => σ 404 p 0 + 1
theorem upA_same {σ : St} {t o : Nat} {v : Int} (h : σ t o = fun _ => v) : upA σ t o (fun _ => v) = σ := by rw [← h, upA_self]
theorem c34 {d : Nat} {k : Int} {r : Nat} {b : Bool} {T : Tt} {σ : St} {Q : vmO → vmH → Prop} (hr : ob 4 r) (h5 : σ 405 r = fun _ => σ 405 r 0) : Ca d k 34 [.ref r, .int (i32 (if b then 1 else 0))] (E T σ) Q = Q (.inl none) (E T (plW σ r b)) := by
  have hr3 := ob_lt hr
  rw [n34 _ _ _ _ _ _ _ hr]
  unfold plW
  cases b with
  | true => simp (disch := (first | assumption | omega | exact Nat.le_of_ble_eq_true rfl | rfl)) only [w34_0, w34_1, w34_4, w34_5, w34_6, w34_9, w34_10, w34_11, w34_14, w34_15, w34_16, w34_19, w34_20, w34_21, w34_24, w34_25, w34_26, w34_29, Ko_n, Ko_v, vX_i, vX_r, vX_l, vX_j, reduceIte, upA_t, Int.reduceEq]
  | false =>
    simp (disch := (first | assumption | omega | exact Nat.le_of_ble_eq_true rfl | rfl)) only [w34_0, w34_1, w34_4, w34_5, w34_6, w34_9, w34_10, w34_11, w34_14, w34_15, w34_16, w34_19, w34_20, w34_21, w34_24, w34_25, w34_26, w34_29, Ko_n, Ko_v, vX_i, vX_r, vX_l, vX_j, reduceIte, upA_t, Bool.false_eq_true]
    rw [upA_same h5]
def plE (σ : St) (p : Nat) (w c t : Int) : St := upA (upA (upA σ 407 p (fu (σ 407 p) (4 * w + σ 406 p w) c)) 408 p (fu (σ 408 p) (4 * w + σ 406 p w) t)) 406 p (fu (σ 406 p) w (σ 406 p w + 1))
theorem c35 {d : Nat} {k w c t : Int} {r : Nat} {T : Tt} {σ : St} {Q : vmO → vmH → Prop} (hr : ob 4 r) (w0 : 0 ≤ w) (w1 : w < 5) (e0 : 0 ≤ σ 406 r w) (e1 : σ 406 r w < 4) : Ca d k 35 [.ref r, .int (i32 w), .int (i32 c), .int (i32 t)] (E T σ) Q = Q (.inl none) (E T (plE σ r w c t)) := by
  have hr3 := ob_lt hr
  rw [n35 _ _ _ _ _ _ _ _ _ hr]
  unfold plE
  simp (disch := (first | assumption | omega | exact Nat.le_of_ble_eq_true rfl | rfl)) only [w35_0, w35_1, w35_4, w35_5, w35_6, w35_7, w35_10, w35_11, w35_12, w35_13, w35_14, w35_17, w35_18, w35_19, w35_20, w35_22, w35_23, w35_26, w35_28, w35_29, w35_30, w35_31, w35_34, w35_36, w35_37, w35_38, w35_39, w35_42, w35_43, w35_44, w35_45, w35_46, w35_47, w35_48, Ko_n, Ko_v, vX_i, vX_r, vX_l, vX_j, reduceIte, upA_t, show ¬ (4 : Int) ≤ σ 406 r w by omega]
def plB (σ : St) (p o : Nat) : St := upA (upA (upA (upA (lwB (upA (upA (upA (upA (upA (upA (upA (upA (upA σ 400 p fun _ => σ 400 o 0) 401 p fun _ => σ 401 o 0) 402 p fun _ => σ 402 o 0) 403 p fun _ => σ 403 o 0) 404 p fun _ => σ 404 o 0) 405 p fun _ => σ 405 o 0) 406 p (cp (σ 406 o) (σ 406 p) 5)) 407 p (cp (σ 407 o) (σ 407 p) 20)) 408 p (cp (σ 408 o) (σ 408 p) 20)) (p + 4) (o + 4)) 410 p (cp (σ 410 o) (σ 410 p) 144)) 411 p fun _ => (i64 (σ 411 o 0)).toInt) 412 p fun _ => (i64 (σ 412 o 0)).toInt) 413 p fun _ => (i64 (σ 413 o 0)).toInt
theorem lwB_t {σ : St} {r o t a : Nat} (h0 : t ≠ 300) (h1 : t ≠ 301) : lwB σ r o t a = σ t a := by unfold lwB; rw [upA_t h1, upA_t h0]
theorem c36 {d : Nat} {k : Int} {r o : Nat} {T : Tt} {σ : St} {Q : vmO → vmH → Prop} (hr : ob 4 r) (ho : ob 4 o) (h0 : 0 ≤ σ 301 (o + 4) 0) (h1 : σ 301 (o + 4) 0 ≤ 900) : Ca (d + 1) k 36 [.ref r, .ref o] (E T σ) Q = Q (.inl none) (E T (plB σ r o)) := by
  have hr3 := ob_lt hr
  have ho3 := ob_lt ho
  have hl := ob_law hr
  have hl2 := ob_law ho
  rw [n36 _ _ _ _ _ _ _ hr]
  simp (disch := (first | assumption | omega | exact Nat.le_of_ble_eq_true rfl | rfl)) only [w36_0, w36_1, w36_2, w36_5, w36_8, w36_9, w36_10, w36_13, w36_16, w36_17, w36_18, w36_21, w36_24, w36_25, w36_26, w36_29, w36_32, w36_33, w36_34, w36_37, w36_40, w36_41, w36_42, w36_45, w36_48, w36_49, w36_52, w36_53, w36_54, w36_57, w36_58, w36_59, w36_62, w36_63, w36_66, w36_67, w36_70, w36_71, w36_72, w36_75, w36_76, w36_77, w36_80, w36_81, w36_84, w36_85, w36_88, w36_89, w36_90, w36_93, w36_94, w36_95, w36_98, w36_99, w36_102, w36_103, w36_106, w36_107, w36_110, w36_113, w36_114, w36_117, w36_118, w36_119, w36_122, w36_123, w36_124, w36_127, w36_128, w36_131, w36_132, w36_133, w36_136, w36_139, w36_140, w36_141, w36_144, w36_147, w36_148, w36_149, w36_152, w36_155, Ko_n, Ko_v, vX_i, vX_r, vX_l, vX_j, reduceIte, upA_t]
  rw [c22 hl hl2 (by simp (disch := omega) only [upA_t]; exact h0) (by simp (disch := omega) only [upA_t]; exact h1)]
  simp (disch := (first | assumption | omega | exact Nat.le_of_ble_eq_true rfl | rfl)) only [w36_0, w36_1, w36_2, w36_5, w36_8, w36_9, w36_10, w36_13, w36_16, w36_17, w36_18, w36_21, w36_24, w36_25, w36_26, w36_29, w36_32, w36_33, w36_34, w36_37, w36_40, w36_41, w36_42, w36_45, w36_48, w36_49, w36_52, w36_53, w36_54, w36_57, w36_58, w36_59, w36_62, w36_63, w36_66, w36_67, w36_70, w36_71, w36_72, w36_75, w36_76, w36_77, w36_80, w36_81, w36_84, w36_85, w36_88, w36_89, w36_90, w36_93, w36_94, w36_95, w36_98, w36_99, w36_102, w36_103, w36_106, w36_107, w36_110, w36_113, w36_114, w36_117, w36_118, w36_119, w36_122, w36_123, w36_124, w36_127, w36_128, w36_131, w36_132, w36_133, w36_136, w36_139, w36_140, w36_141, w36_144, w36_147, w36_148, w36_149, w36_152, w36_155, Ko_n, Ko_v, vX_i, vX_r, vX_l, vX_j, reduceIte, upA_t, lwB_t]
  unfold plB
  rfl
