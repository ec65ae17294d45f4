/-! ===== the class's reader: tokens ===== -/
theorem ob_rd : ob 5 75 := (rfl : sh 75 = (2, 5, 0, 0, 0))
theorem ob_fr : ob 8 76 := (rfl : sh 76 = (2, 8, 0, 0, 0))
theorem ob_fp : ob 4 77 := (rfl : sh 77 = (2, 4, 0, 0, 0))
theorem ob_fl : ob 3 81 := (rfl : sh 81 = (2, 3, 0, 0, 0))
theorem ob_fs : ob 7 84 := (rfl : sh 84 = (2, 7, 0, 0, 0))
def flt (s : Ps) : Int := if pB s = 0 then (if pT s = 3 then 1 else 0) else pB s
def fpl (s : Ps) : Int := if pB s = 0 then (if pT s = 3 then pG s else -1) else pP s
def soP (s : Ps) : Int := if pT s = 0 then 0 else if pT s = 1 then 1 else if pT s = 2 then 2 else 3
/-- the class's reader stands as the reference's -/
def Rc (f : Int → Int) (n : Int) (σ : St) (s : Ps) : Prop := σ 505 75 0 = 1 ∧ σ 506 75 0 = n ∧ σ 1100 0 = f ∧ (0 ≤ σ 509 75 0 ∧ σ 509 75 0 ≤ 4) ∧ (-1 ≤ σ 510 75 0 ∧ σ 510 75 0 ≤ 999) ∧ σ 500 75 0 = flt s ∧ σ 501 75 0 = fpl s ∧ (flt s = 0 → σ 507 75 0 = pG s ∧ σ 508 75 0 = pH s ∧ σ 509 75 0 = soP s ∧ (pT s = 2 → σ 510 75 0 = pV s) ∧ (soP s = 3 → σ 510 75 0 = pT s))
def fR (σ τ : St) : Prop := ∀ t o, o ≠ 75 → τ t o = σ t o
theorem fR_r {σ : St} : fR σ σ := fun _ _ _ => rfl
theorem fR_t {σ τ ρ : St} (h1 : fR σ τ) (h2 : fR τ ρ) : fR σ ρ := fun t o h => (h2 t o h).trans (h1 t o h)
theorem fR_u {σ τ : St} {t : Nat} {f : Int → Int} (h : fR σ τ) : fR σ (upA τ t 75 f) := fun t' o' ho => by rw [upA_o ho]; exact h t' o' ho
theorem flt_0 {s : Ps} (h : flt s = 0) : pB s = 0 ∧ pT s ≠ 3 := by
  unfold flt at h
  split at h
  · rename_i e
    split at h
    · omega
    · exact ⟨e, by assumption⟩
  · rename_i e; exact absurd h e
theorem flt_n {s : Ps} (h : flt s ≠ 0) : pB s ≠ 0 ∨ (pB s = 0 ∧ pT s = 3) := by
  unfold flt at h
  split at h
  · rename_i e
    split at h
    · exact Or.inr ⟨e, by assumption⟩
    · exact absurd rfl h
  · rename_i e; exact Or.inl e
theorem flt_b {s : Ps} (h : pB s = 0) (h3 : pT s ≠ 3) : flt s = 0 ∧ fpl s = -1 := by unfold flt fpl; rw [if_pos h, if_pos h, if_neg h3, if_neg h3]; exact ⟨rfl, rfl⟩
theorem flt_in {n : Int} {s : Ps} (h : pO n s) : 0 ≤ flt s ∧ flt s ≤ 4 := by
  have := h.1
  unfold flt
  split
  · split <;> omega
  · exact this
theorem flt_bl {n k : Int} {s : Ps} (h : pO n s) (k0 : 1 ≤ k) : flt (blm k s) = (if flt s = 0 then k else flt s) ∧ fpl (blm k s) = (if flt s = 0 then pG s else fpl s) := by
  by_cases e : pB s = 0
  · by_cases e3 : pT s = 3
    · have : flt s = 1 := by unfold flt; rw [if_pos e, if_pos e3]
      have h2 : fpl s = pG s := by unfold fpl; rw [if_pos e, if_pos e3]
      rw [if_neg (by omega), if_neg (by omega), this, h2]
      unfold blm
      rw [if_pos e, if_pos e3]
      exact ⟨rfl, rfl⟩
    · have := flt_b e e3
      rw [if_pos this.1, if_pos this.1]
      unfold blm
      rw [if_pos e, if_neg e3]
      unfold flt fpl
      rw [if_neg (by show ¬ k = 0; omega), if_neg (by show ¬ k = 0; omega)]
      exact ⟨rfl, rfl⟩
  · have h1 : flt s = pB s := by unfold flt; rw [if_neg e]
    have h2 : blm k s = s := by unfold blm; rw [if_neg e]
    rw [h2, if_neg (by omega), if_neg (by omega)]
    exact ⟨rfl, rfl⟩
/-- what has a fault keeps to it -/
theorem Rc_f {f : Int → Int} {n : Int} {σ : St} {s s' : Ps} (h : Rc f n σ s) (h0 : flt s ≠ 0) (h1 : flt s' = flt s) (h2 : fpl s' = fpl s) : Rc f n σ s' := by
  obtain ⟨a1, a2, a3, a4, a5, a6, a7, a8⟩ := h
  exact ⟨a1, a2, a3, a4, a5, by rw [h1]; exact a6, by rw [h2]; exact a7, fun e => absurd (h1 ▸ e) h0⟩
theorem Rc_fr {f : Int → Int} {n : Int} {σ τ : St} {s : Ps} (h : Rc f n σ s) (h5 : ∀ t, 500 ≤ t → t < 600 → τ t 75 = σ t 75) (h1 : τ 1100 0 = σ 1100 0) : Rc f n τ s := by
  unfold Rc
  rw [h5 505 (by omega) (by omega), h5 506 (by omega) (by omega), h1, h5 509 (by omega) (by omega), h5 510 (by omega) (by omega), h5 500 (by omega) (by omega), h5 501 (by omega) (by omega), h5 507 (by omega) (by omega), h5 508 (by omega) (by omega)]
  exact h
theorem c39 {d : Nat} {k u n : Int} {f : Int → Int} {T : Tt} {σ : St} {s : Ps} {Q : vmO → vmH → Prop} (hR : Rc f n σ s) (hs : pO n s) (u0 : 1 ≤ u) (hQ : ∀ τ, Rc f n τ (blm u s) → fR σ τ → Q (.inl none) (E T τ)) : Ca d k 39 [.ref 75, .int (i32 u)] (E T σ) Q := by
  have h0 := ob_rd
  have hb := flt_bl (k := u) hs u0
  have hi := flt_in hs
  rw [n39 _ _ _ _ _ _ _ h0]
  by_cases e : flt s = 0
  · obtain ⟨a1, a2, a3, a4, a5, a6, a7, a8⟩ := hR
    have a9 := a8 e
    rw [if_pos e, if_pos e] at hb
    simp (disch := (first | assumption | omega | exact Nat.le_of_ble_eq_true rfl | rfl)) only [w39_0, w39_1, w39_4, w39_7, w39_8, w39_9, w39_12, w39_13, w39_14, w39_17, w39_20, Ko_n, Ko_v, vX_i, vX_r, vX_l, vX_j, reduceIte, a6, e, not_true, upA_t]
    refine hQ _ ⟨?_, ?_, ?_, ?_, ?_, ?_, ?_, fun e2 => ?_⟩ (fR_u (fR_u fR_r))
    · rw [upA_t (by omega), upA_t (by omega)]; exact a1
    · rw [upA_t (by omega), upA_t (by omega)]; exact a2
    · rw [upA_t (by omega), upA_t (by omega)]; exact a3
    · rw [upA_t (by omega), upA_t (by omega)]; exact a4
    · rw [upA_t (by omega), upA_t (by omega)]; exact a5
    · rw [upA_t (by omega), upA_s, hb.1]
    · rw [upA_s, hb.2]; exact a9.1
    · rw [hb.1] at e2; omega
  · rw [if_neg e, if_neg e] at hb
    simp (disch := (first | assumption | omega | exact Nat.le_of_ble_eq_true rfl | rfl)) only [w39_0, w39_1, w39_4, w39_7, w39_8, w39_9, w39_12, w39_13, w39_14, w39_17, w39_20, Ko_n, Ko_v, vX_i, vX_r, vX_l, vX_j, reduceIte, hR.2.2.2.2.2.1, e, not_false_eq_true]
    exact hQ _ (Rc_f hR e hb.1 hb.2) fR_r
theorem A_1100 : A 1100 0 = 1 := rfl
theorem c41 {d : Nat} {k a b n : Int} {f : Int → Int} {T : Tt} {σ : St} {Q : vmO → vmH → Prop} (h5 : σ 505 75 0 = 1) (h6 : σ 506 75 0 = n) (hF : σ 1100 0 = f) (hf : tpOk f n) (p0 : 0 ≤ σ 507 75 0) (p1 : σ 507 75 0 ≤ n) (a0 : 0 ≤ a) (a1 : a ≤ 255) (b0 : 0 ≤ b) (b1 : b ≤ 255) : Ca d k 41 [.ref 75, .int (i32 a), .int (i32 b)] (E T σ) Q = Q (.inl (some (.int (i32 (ero f n a b 900 (σ 507 75 0)))))) (E T σ) := by
  have h0 := ob_rd
  have hh := ob_hp
  have hn := hf.2
  have h7 : (σ 505 75 0).toNat = A 1100 0 := by rw [h5]; rfl
  rw [n41 _ _ _ _ _ _ _ _ h0]
  have loop : ∀ (m : Nat) (p : Int), 0 ≤ p → p ≤ n → n - p ≤ m → Wp d M_X5_endOfRun 5 [.ref 75, .int (i32 a), .int (i32 b), .int (i32 p)] [] (E T σ) Q = Q (.inl (some (.int (i32 (ero f n a b m p))))) (E T σ) := by
    intro m
    induction m with
    | zero =>
      intro p p0 p1 hm
      rw [w41_5]
      simp (disch := (first | assumption | omega | exact Nat.le_of_ble_eq_true rfl | rfl)) only [w41_0, w41_1, w41_4, w41_6, w41_7, w41_10, w41_13, w41_14, w41_17, w41_18, w41_19, w41_20, w41_23, w41_24, w41_27, w41_28, w41_29, w41_30, w41_33, w41_36, w41_39, w41_40, Ko_n, Ko_v, vX_i, vX_r, vX_l, vX_j, reduceIte, h6, show n ≤ p by omega]
      rfl
    | succ m ih =>
      intro p p0 p1 hm
      rw [w41_5]
      simp only [ero]
      by_cases e : n ≤ p
      · rw [if_neg (by omega)]
        simp (disch := (first | assumption | omega | exact Nat.le_of_ble_eq_true rfl | rfl)) only [w41_0, w41_1, w41_4, w41_6, w41_7, w41_10, w41_13, w41_14, w41_17, w41_18, w41_19, w41_20, w41_23, w41_24, w41_27, w41_28, w41_29, w41_30, w41_33, w41_36, w41_39, w41_40, Ko_n, Ko_v, vX_i, vX_r, vX_l, vX_j, reduceIte, h6, e]
      · have hb := hf.1 p p0 (by omega)
        have ih' := ih (p + 1) (by omega) (by omega) (by omega)
        by_cases e1 : f p < a
        · rw [if_neg (by omega)]
          simp (disch := (first | assumption | omega | exact Nat.le_of_ble_eq_true rfl | rfl)) only [w41_0, w41_1, w41_4, w41_6, w41_7, w41_10, w41_13, w41_14, w41_17, w41_18, w41_19, w41_20, w41_23, w41_24, w41_27, w41_28, w41_29, w41_30, w41_33, w41_36, w41_39, w41_40, Ko_n, Ko_v, vX_i, vX_r, vX_l, vX_j, reduceIte, h6, h7, hF, e, e1]
        · by_cases e2 : b < f p
          · rw [if_neg (by omega)]
            simp (disch := (first | assumption | omega | exact Nat.le_of_ble_eq_true rfl | rfl)) only [w41_0, w41_1, w41_4, w41_6, w41_7, w41_10, w41_13, w41_14, w41_17, w41_18, w41_19, w41_20, w41_23, w41_24, w41_27, w41_28, w41_29, w41_30, w41_33, w41_36, w41_39, w41_40, Ko_n, Ko_v, vX_i, vX_r, vX_l, vX_j, reduceIte, h6, h7, hF, e, e1, e2]
          · rw [if_pos (by omega)]
            simp (disch := (first | assumption | omega | exact Nat.le_of_ble_eq_true rfl | rfl)) only [w41_0, w41_1, w41_4, w41_6, w41_7, w41_10, w41_13, w41_14, w41_17, w41_18, w41_19, w41_20, w41_23, w41_24, w41_27, w41_28, w41_29, w41_30, w41_33, w41_36, w41_39, w41_40, Ko_n, Ko_v, vX_i, vX_r, vX_l, vX_j, reduceIte, h6, h7, hF, e, e1, e2]
            exact ih'
  simp (disch := (first | assumption | omega | exact Nat.le_of_ble_eq_true rfl | rfl)) only [w41_0, w41_1, w41_4, w41_6, w41_7, w41_10, w41_13, w41_14, w41_17, w41_18, w41_19, w41_20, w41_23, w41_24, w41_27, w41_28, w41_29, w41_30, w41_33, w41_36, w41_39, w41_40, Ko_n, Ko_v, vX_i, vX_r, vX_l, vX_j, reduceIte]
  exact loop 900 _ p0 p1 (by omega)
/-- the reader's own cells behind a token -/
def rT (σ : St) (p x so va : Int) : St := upA (upA (upA (upA σ 507 75 fun _ => p) 508 75 fun _ => x) 510 75 fun _ => va) 509 75 fun _ => so
theorem L40a {d : Nat} {n x : Int} {f : Int → Int} {T : Tt} {σ : St} {Q : vmO → vmH → Prop} {l1 : Value} (h5 : σ 505 75 0 = 1) (h6 : σ 506 75 0 = n) (hF : σ 1100 0 = f) (hf : tpOk f n) : ∀ (m : Nat) (p : Int), 0 ≤ p → p ≤ n → n - p ≤ m → Wp d M_X5_advance 8 [.ref 75, l1] [] (E T (upA σ 507 75 fun _ => p)) Q = Wp d M_X5_advance 60 [.ref 75, l1] [] (E T (upA σ 507 75 fun _ => skp f n m p)) Q := by
  have h0 := ob_rd
  have hh := ob_hp
  have hn := hf.2
  have h7 : (σ 505 75 0).toNat = A 1100 0 := by rw [h5]; rfl
  intro m
  induction m with
  | zero =>
    intro p p0 p1 hm
    simp (disch := omega) only [w40_8]
    simp (disch := (first | assumption | omega | exact Nat.le_of_ble_eq_true rfl | rfl)) only [w40_9, w40_12, w40_13, w40_16, w40_19, w40_20, w40_23, w40_24, w40_27, w40_28, w40_30, w40_33, w40_34, w40_37, w40_38, w40_41, w40_42, w40_44, w40_47, w40_48, w40_49, w40_52, w40_53, w40_54, w40_57, Ko_n, Ko_v, vX_i, vX_r, vX_l, vX_j, reduceIte, upA_s, upA_t, h6, show n ≤ p by omega]
    rfl
  | succ m ih =>
    intro p p0 p1 hm
    simp (disch := omega) only [w40_8]
    simp only [skp]
    by_cases e : n ≤ p
    · rw [if_neg (by omega)]
      simp (disch := (first | assumption | omega | exact Nat.le_of_ble_eq_true rfl | rfl)) only [w40_9, w40_12, w40_13, w40_16, w40_19, w40_20, w40_23, w40_24, w40_27, w40_28, w40_30, w40_33, w40_34, w40_37, w40_38, w40_41, w40_42, w40_44, w40_47, w40_48, w40_49, w40_52, w40_53, w40_54, w40_57, Ko_n, Ko_v, vX_i, vX_r, vX_l, vX_j, reduceIte, upA_s, upA_t, h6, e]
    · have hb := hf.1 p p0 (by omega)
      have ih' := ih (p + 1) (by omega) (by omega) (by omega)
      by_cases e1 : f p = 10
      · rw [if_pos (by omega)]
        simp (disch := (first | assumption | omega | exact Nat.le_of_ble_eq_true rfl | rfl)) only [w40_9, w40_12, w40_13, w40_16, w40_19, w40_20, w40_23, w40_24, w40_27, w40_28, w40_30, w40_33, w40_34, w40_37, w40_38, w40_41, w40_42, w40_44, w40_47, w40_48, w40_49, w40_52, w40_53, w40_54, w40_57, Ko_n, Ko_v, vX_i, vX_r, vX_l, vX_j, reduceIte, upA_s, upA_t, h6, h7, hF, e, e1, upA_upA]
        exact ih'
      · by_cases e2 : f p = 32
        · rw [if_pos (by omega)]
          simp (disch := (first | assumption | omega | exact Nat.le_of_ble_eq_true rfl | rfl)) only [w40_9, w40_12, w40_13, w40_16, w40_19, w40_20, w40_23, w40_24, w40_27, w40_28, w40_30, w40_33, w40_34, w40_37, w40_38, w40_41, w40_42, w40_44, w40_47, w40_48, w40_49, w40_52, w40_53, w40_54, w40_57, Ko_n, Ko_v, vX_i, vX_r, vX_l, vX_j, reduceIte, upA_s, upA_t, h6, h7, hF, e, e1, e2, upA_upA, not_true, Int.reduceEq]
          exact ih'
        · rw [if_neg (by omega)]
          simp (disch := (first | assumption | omega | exact Nat.le_of_ble_eq_true rfl | rfl)) only [w40_9, w40_12, w40_13, w40_16, w40_19, w40_20, w40_23, w40_24, w40_27, w40_28, w40_30, w40_33, w40_34, w40_37, w40_38, w40_41, w40_42, w40_44, w40_47, w40_48, w40_49, w40_52, w40_53, w40_54, w40_57, Ko_n, Ko_v, vX_i, vX_r, vX_l, vX_j, reduceIte, upA_s, upA_t, h6, h7, hF, e, e1, e2, not_false_eq_true]
