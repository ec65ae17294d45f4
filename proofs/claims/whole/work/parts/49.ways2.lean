/-! ===== Ways: the rest ===== -/
theorem wy_up {σ : St} {a : Nat} {f g o : Int → Int} {q : Int → Bool} {r : Int} : wyS (upA σ 1001 a g) a f q o r = wyS σ a f q o r := by
  unfold wyS
  rw [upA_upA]
theorem geo_t {σ σ' : St} {p : Nat} {W H : Int} (hg : geo σ p W H) (h1 : σ' 401 p = σ 401 p) (h2 : σ' 402 p = σ 402 p) (h3 : σ' 411 p = σ 411 p) (h4 : σ' 412 p = σ 412 p) (h5 : σ' 413 p = σ 413 p) (h6 : σ' 410 p = σ 410 p) : geo σ' p W H := by
  unfold geo
  rw [h1, h2, h3, h4, h5, h6]
  exact hg
theorem std_in {c g : Int → Int} {z : Int} : frIn (std c z g) := by
  have hfar : far = 1000000000 := rfl
  intro k k0 k1
  unfold std
  have hb : fil g 36 far k = far := by unfold fil; rw [if_pos ⟨k0, k1⟩]
  by_cases h : c z = -1
  · rw [if_pos h, hb]; omega
  · rw [if_neg h]
    by_cases hk : k = z
    · rw [hk, fu_s]; omega
    · rw [fu_n hk, hb]; omega
/-- what a spread from a cell lays -/
def spr (W H : Int) (c : Int → Int) (z : Int) (N : Nat) (g o : Int → Int) : Dj := dj W H c N (std c z g, (fun _ => false), o, 0) N
theorem c98 {d : Nat} {k W H z : Int} {a p N : Nat} {T : Tt} {σ : St} {Q : vmO → vmH → Prop} (ha : ob 10 a) (hp : ob 4 p) (hg : geo σ p W H) (h : wh2 W H) (hN : (N : Int) = W * H) (hc : csIn (σ 1000 a) (W * H)) (z0 : 0 ≤ z) (z1 : z < W * H) : Ca (d + 3) k 98 [.ref a, .ref p, .int (i32 z)] (E T σ) Q = Q (.inl none) (E T (wyD σ a (spr W H (σ 1000 a) z N (σ 1001 a) (σ 1005 a)))) := by
  have ha3 := ob_lt ha
  have hp3 := ob_lt hp
  have hm := wh_mul h
  have hcz := hc z z0 z1
  rw [n98 _ _ _ _ _ _ _ _ ha]
  simp (disch := (first | assumption | omega | exact Nat.le_of_ble_eq_true rfl | rfl)) only [w98_0, w98_1, w98_2, w98_5, w98_6, w98_7, w98_10, Ko_n, Ko_v, vX_i, vX_r, vX_l, vX_j, reduceIte]
  rw [c97 ha z0 (by omega) hcz.1 hcz.2.1]
  simp (disch := (first | assumption | omega | exact Nat.le_of_ble_eq_true rfl | rfl)) only [w98_0, w98_1, w98_2, w98_5, w98_6, w98_7, w98_10, Ko_n, Ko_v, vX_i, vX_r, vX_l, vX_j, reduceIte]
  rw [c100 (σ := upA σ 1001 a (std (σ 1000 a) z (σ 1001 a))) ha hp (geo_t hg (upA_t (by omega)) (upA_t (by omega)) (upA_t (by omega)) (upA_t (by omega)) (upA_t (by omega)) (upA_t (by omega))) h hN (by rw [upA_t (by omega)]; exact hc) (by rw [upA_s]; exact std_in), upA_t (by omega), upA_s, upA_t (by omega)]
  simp (disch := (first | assumption | omega | exact Nat.le_of_ble_eq_true rfl | rfl)) only [w98_0, w98_1, w98_2, w98_5, w98_6, w98_7, w98_10, Ko_n, Ko_v, vX_i, vX_r, vX_l, vX_j, reduceIte]
  unfold wyD spr
  rw [wy_up]
theorem cst_cs {f g : Int → Int} {wi fr : Bool} {e : Int → Int} {N : Int} (hN : N ≤ 36) (hf : kdOk f) (hg : tkOk g) : csIn (cp (cst f g wi fr) e N) N := by
  intro k k0 k1
  rw [cp_lt k0 k1]
  exact cst_in hf hg k0 (by omega)
/-- where a plan is sound enough to be walked in -/
def plK (σ : St) (p : Nat) (W H : Int) : Prop := geo σ p W H ∧ wh2 W H ∧ 0 ≤ σ 403 p 0 ∧ σ 403 p 0 ≤ 9 ∧ 0 ≤ σ 405 p 0 ∧ σ 405 p 0 < 32
def scK (σ : St) (s : Nat) : Prop := kdOk (σ 700 s) ∧ tkOk (σ 701 s) ∧ 0 ≤ σ 705 s 0 ∧ σ 705 s 0 < 1000000000
/-- the prices of a walker -/
def prc (σ : St) (p s : Nat) (fr : Bool) : Int → Int := cst (σ 700 s) (σ 701 s) (wiB (σ 403 p 0) (σ 705 s 0)) fr
theorem c96 {d : Nat} {k W H w : Int} {a p s N : Nat} {T : Tt} {σ : St} {Q : vmO → vmH → Prop} (ha : ob 10 a) (hp : ob 4 p) (hs : ob 7 s) (hP : plK σ p W H) (hS : scK σ s) (hN : (N : Int) = W * H) (w0 : 0 ≤ w) (w1 : w < 5) (z0 : 0 ≤ σ 702 s w) (z1 : σ 702 s w < W * H) :
    Ca (d + 4) k 96 [.ref a, .ref p, .ref s, .int (i32 w)] (E T σ) Q = Q (.inl none) (E T (wyD (upA σ 1000 a (cp (prc σ p s (frB (σ 405 p 0) w)) (σ 1000 a) (W * H))) a (spr W H (cp (prc σ p s (frB (σ 405 p 0) w)) (σ 1000 a) (W * H)) (σ 702 s w) N (σ 1001 a) (σ 1005 a)))) := by
  have ha3 := ob_lt ha
  have hp3 := ob_lt hp
  have hs3 := ob_lt hs
  obtain ⟨hg, h, m0, m1, u0, u1⟩ := hP
  obtain ⟨hf, htk, n0, n1⟩ := hS
  have hm := wh_mul h
  rw [n96 _ _ _ _ _ _ _ _ _ ha]
  simp (disch := (first | assumption | omega | exact Nat.le_of_ble_eq_true rfl | rfl)) only [w96_0, w96_1, w96_2, w96_3, w96_4, w96_5, w96_8, w96_11, w96_12, w96_13, w96_14, w96_17, w96_18, w96_19, w96_22, Ko_n, Ko_v, vX_i, vX_r, vX_l, vX_j, reduceIte, c27]
  rw [c95 (N := W * H) ha hp hs hf htk m0 m1 n0 (by omega) (by rw [hg.1, hg.2.1]) (by omega) (by omega)]
  simp (disch := (first | assumption | omega | exact Nat.le_of_ble_eq_true rfl | rfl)) only [w96_0, w96_1, w96_2, w96_3, w96_4, w96_5, w96_8, w96_11, w96_12, w96_13, w96_14, w96_17, w96_18, w96_19, w96_22, Ko_n, Ko_v, vX_i, vX_r, vX_l, vX_j, reduceIte, upA_t]
  rw [c98 (σ := upA σ 1000 a (cp (cst (σ 700 s) (σ 701 s) (wiB (σ 403 p 0) (σ 705 s 0)) (frB (σ 405 p 0) w)) (σ 1000 a) (W * H))) ha hp (geo_t hg (upA_t (by omega)) (upA_t (by omega)) (upA_t (by omega)) (upA_t (by omega)) (upA_t (by omega)) (upA_t (by omega))) h hN (by rw [upA_s]; exact cst_cs (by omega) hf htk) z0 z1, upA_s, upA_t (by omega), upA_t (by omega)]
  simp (disch := (first | assumption | omega | exact Nat.le_of_ble_eq_true rfl | rfl)) only [w96_0, w96_1, w96_2, w96_3, w96_4, w96_5, w96_8, w96_11, w96_12, w96_13, w96_14, w96_17, w96_18, w96_19, w96_22, Ko_n, Ko_v, vX_i, vX_r, vX_l, vX_j, reduceIte]
  rfl
theorem c99 {d : Nat} {k W H z t x : Int} {a p N : Nat} {T : Tt} {σ : St} {Q : vmO → vmH → Prop} (ha : ob 10 a) (hp : ob 4 p) (hg : geo σ p W H) (h : wh2 W H) (hN : (N : Int) = W * H) (hc : csIn (σ 1000 a) (W * H)) (z0 : 0 ≤ z) (z1 : z < W * H) (t0 : 0 ≤ t) (t1 : t < W * H) (x0 : 0 ≤ x) (x1 : x < W * H) :
    Ca (d + 4) k 99 [.ref a, .ref p, .int (i32 z), .int (i32 t), .int (i32 x)] (E T σ) Q = Q (.inl (some (.int (i32 ((spr W H (fu (σ 1000 a) x (-1)) z N (σ 1001 a) (σ 1005 a)).1 t))))) (E T (wyD σ a (spr W H (fu (σ 1000 a) x (-1)) z N (σ 1001 a) (σ 1005 a)))) := by
  have ha3 := ob_lt ha
  have hp3 := ob_lt hp
  have hm := wh_mul h
  have hc2 : csIn (fu (σ 1000 a) x (-1)) (W * H) := by
    intro j j0 j1
    by_cases hj : j = x
    · rw [hj, fu_s]; omega
    · rw [fu_n hj]; exact hc j j0 j1
  rw [n99 _ _ _ _ _ _ _ _ _ _ ha]
  simp (disch := (first | assumption | omega | exact Nat.le_of_ble_eq_true rfl | rfl)) only [w99_0, w99_1, w99_4, w99_6, w99_7, w99_9, w99_10, w99_13, w99_15, w99_16, w99_17, w99_18, w99_19, w99_20, w99_23, w99_24, w99_27, w99_29, w99_31, w99_32, w99_33, w99_36, w99_37, w99_38, Ko_n, Ko_v, vX_i, vX_r, vX_l, vX_j, reduceIte]
  rw [c98 (σ := upA σ 1000 a (fu (σ 1000 a) x (-1))) ha hp (geo_t hg (upA_t (by omega)) (upA_t (by omega)) (upA_t (by omega)) (upA_t (by omega)) (upA_t (by omega)) (upA_t (by omega))) h hN (by rw [upA_s]; exact hc2) z0 z1, upA_s, upA_t (by omega), upA_t (by omega)]
  unfold wyD
  simp (disch := (first | assumption | omega | exact Nat.le_of_ble_eq_true rfl | rfl)) only [w99_0, w99_1, w99_4, w99_6, w99_7, w99_9, w99_10, w99_13, w99_15, w99_16, w99_17, w99_18, w99_19, w99_20, w99_23, w99_24, w99_27, w99_29, w99_31, w99_32, w99_33, w99_36, w99_37, w99_38, Ko_n, Ko_v, vX_i, vX_r, vX_l, vX_j, reduceIte, wyt, wy1, upA_t, upA_s]
  have e1 : fu (fu (σ 1000 a) x (-1)) x (σ 1000 a x) = σ 1000 a := by
    funext j
    by_cases hj : j = x
    · rw [hj, fu_s]
    · rw [fu_n hj, fu_n hj]
  rw [e1]
  congr 2
  unfold wyS
  rw [upA_comm (t := 1006) (t' := 1000) (by omega), upA_comm (t := 1005) (t' := 1000) (by omega), upA_comm (t := 1004) (t' := 1000) (by omega), upA_comm (t := 1001) (t' := 1000) (by omega), upA_upA, upA_self]
/-- what is less from beside -/
def lfb (W H : Int) (g : Int → Int) (z pr v : Int) : Nat → Int
  | 0 => v
  | n + 1 => if nbC W H z n = -1 then lfb W H g z pr v n else min (lfb W H g z pr v n) (g (nbC W H z n) + pr)
theorem lfb_in {W H z pr v : Int} {g : Int → Int} (h : wh2 W H) (hg : frIn g) (z0 : 0 ≤ z) (z1 : z < W * H) (p0 : 0 ≤ pr) (v0 : 0 ≤ v) (n : Nat) : 0 ≤ lfb W H g z pr v n ∧ lfb W H g z pr v n ≤ v := by
  have hm := wh_mul h
  induction n with
  | zero => exact ⟨v0, Int.le_refl _⟩
  | succ n ih =>
    simp only [lfb]
    by_cases hn : nbC W H z n = -1
    · rw [if_pos hn]; exact ih
    · rw [if_neg hn]
      have hi := nb_in h z0 z1 hn
      have := hg _ hi.1 (by omega)
      omega
theorem fu_self {f : Int → Int} {z : Int} : fu f z (f z) = f := by
  funext j
  by_cases hj : j = z
  · rw [hj, fu_s]
  · rw [fu_n hj]
theorem fu_fu {f : Int → Int} {z u v : Int} : fu (fu f z u) z v = fu f z v := by
  funext j
  by_cases hj : j = z
  · rw [hj, fu_s, fu_s]
  · rw [fu_n hj, fu_n hj, fu_n hj]
theorem c111 {d : Nat} {k W H z pr : Int} {a p : Nat} {T : Tt} {σ : St} {Q : vmO → vmH → Prop} (ha : ob 10 a) (hp : ob 4 p) (hg : geo σ p W H) (h : wh2 W H) (hf : frIn (σ 1001 a)) (hk : frIn (σ 1002 a)) (z0 : 0 ≤ z) (z1 : z < W * H) (p0 : 0 ≤ pr) (p1 : pr ≤ 181) :
    Ca d k 111 [.ref a, .ref p, .int (i32 z), .int (i32 pr)] (E T σ) Q = Q (.inl (some (.int (i32 (if lfb W H (σ 1002 a) z pr (σ 1001 a z) 4 < σ 1001 a z then 1 else 0))))) (E T (upA σ 1001 a (fu (σ 1001 a) z (lfb W H (σ 1002 a) z pr (σ 1001 a z) 4)))) := by
  have ha3 := ob_lt ha
  have hp3 := ob_lt hp
  have hm := wh_mul h
  have hfar : far = 1000000000 := rfl
  obtain ⟨g1, g2, g3, g4, g5, g6⟩ := hg
  have hfz := hf z z0 (by omega)
  have loop : ∀ (m j : Nat) (l6 : Value), j + m = 4 → Wp d M_X10_lessFromBeside 13 [.ref a, .ref p, .int (i32 z), .int (i32 pr), .int (i32 (σ 1001 a z)), .int (i32 (4 * z + j)), l6] [] (E T (upA σ 1001 a (fu (σ 1001 a) z (lfb W H (σ 1002 a) z pr (σ 1001 a z) j)))) Q = Q (.inl (some (.int (i32 (if lfb W H (σ 1002 a) z pr (σ 1001 a z) 4 < σ 1001 a z then 1 else 0))))) (E T (upA σ 1001 a (fu (σ 1001 a) z (lfb W H (σ 1002 a) z pr (σ 1001 a z) 4)))) := by
    intro m
    induction m with
    | zero =>
      intro j l6 hj
      have hj : j = 4 := by omega
      subst hj
      have hl := lfb_in h hk z0 z1 p0 hfz.1 4
      rw [w111_13]
      simp (disch := (first | assumption | omega | exact Nat.le_of_ble_eq_true rfl | rfl)) only [w111_0, w111_1, w111_4, w111_5, w111_6, w111_8, w111_9, w111_10, w111_11, w111_15, w111_16, w111_17, w111_18, w111_19, w111_20, w111_23, w111_24, w111_27, w111_29, w111_30, w111_32, w111_34, w111_35, w111_38, w111_39, w111_42, w111_43, w111_44, w111_47, w111_48, w111_49, w111_50, w111_53, w111_55, w111_56, w111_57, w111_58, w111_61, w111_62, w111_65, w111_68, w111_69, w111_72, w111_73, w111_74, w111_76, w111_79, w111_80, w111_83, w111_84, Ko_n, Ko_v, vX_i, vX_r, vX_l, vX_j, reduceIte, show (4 * z + ((4 : Nat) : Int)) = 4 * z + 4 by omega, Int.le_refl, upA_s, fu_s]
      by_cases hx : lfb W H (σ 1002 a) z pr (σ 1001 a z) 4 < σ 1001 a z
      · rw [if_neg (by omega), if_pos hx]
      · rw [if_pos (by omega), if_neg hx]
    | succ m ih =>
      intro j l6 hj
      have hb := g6 z j z0 z1 (by omega) (by omega)
      have hl := lfb_in h hk z0 z1 p0 hfz.1 j
      have e1 : (4 * z + (j : Int) + 1) = 4 * z + ((j + 1 : Nat) : Int) := by omega
      have ih' := fun l => ih (j + 1) l (by omega)
      simp only [lfb] at ih'
      rw [w111_13]
      by_cases hn : nbC W H z j = -1
      · rw [if_pos hn] at ih'
        simp (disch := (first | assumption | omega | exact Nat.le_of_ble_eq_true rfl | rfl)) only [w111_0, w111_1, w111_4, w111_5, w111_6, w111_8, w111_9, w111_10, w111_11, w111_15, w111_16, w111_17, w111_18, w111_19, w111_20, w111_23, w111_24, w111_27, w111_29, w111_30, w111_32, w111_34, w111_35, w111_38, w111_39, w111_42, w111_43, w111_44, w111_47, w111_48, w111_49, w111_50, w111_53, w111_55, w111_56, w111_57, w111_58, w111_61, w111_62, w111_65, w111_68, w111_69, w111_72, w111_73, w111_74, w111_76, w111_79, w111_80, w111_83, w111_84, Ko_n, Ko_v, vX_i, vX_r, vX_l, vX_j, reduceIte, show ¬ (4 * z + 4 ≤ 4 * z + (j : Int)) by omega, upA_t, hb, hn, e1]
        exact ih' _
      · have hi := nb_in h z0 z1 hn
        have hfn := hk _ hi.1 (by omega)
        rw [if_neg hn] at ih'
        simp (disch := (first | assumption | omega | exact Nat.le_of_ble_eq_true rfl | rfl)) only [w111_0, w111_1, w111_4, w111_5, w111_6, w111_8, w111_9, w111_10, w111_11, w111_15, w111_16, w111_17, w111_18, w111_19, w111_20, w111_23, w111_24, w111_27, w111_29, w111_30, w111_32, w111_34, w111_35, w111_38, w111_39, w111_42, w111_43, w111_44, w111_47, w111_48, w111_49, w111_50, w111_53, w111_55, w111_56, w111_57, w111_58, w111_61, w111_62, w111_65, w111_68, w111_69, w111_72, w111_73, w111_74, w111_76, w111_79, w111_80, w111_83, w111_84, Ko_n, Ko_v, vX_i, vX_r, vX_l, vX_j, reduceIte, show ¬ (4 * z + 4 ≤ 4 * z + (j : Int)) by omega, upA_t, upA_s, hb, hn, e1, fu_s, upA_upA, fu_fu]
        exact ih' _
  rw [n111 _ _ _ _ _ _ _ _ _ ha]
  simp (disch := (first | assumption | omega | exact Nat.le_of_ble_eq_true rfl | rfl)) only [w111_0, w111_1, w111_4, w111_5, w111_6, w111_8, w111_9, w111_10, w111_11, w111_15, w111_16, w111_17, w111_18, w111_19, w111_20, w111_23, w111_24, w111_27, w111_29, w111_30, w111_32, w111_34, w111_35, w111_38, w111_39, w111_42, w111_43, w111_44, w111_47, w111_48, w111_49, w111_50, w111_53, w111_55, w111_56, w111_57, w111_58, w111_61, w111_62, w111_65, w111_68, w111_69, w111_72, w111_73, w111_74, w111_76, w111_79, w111_80, w111_83, w111_84, Ko_n, Ko_v, vX_i, vX_r, vX_l, vX_j, reduceIte]
  have := loop 4 0 vmJ (by omega)
  simp only [lfb] at this
  rw [fu_self, upA_self, show (4 * z + ((0 : Nat) : Int)) = 4 * z by omega] at this
  exact this
