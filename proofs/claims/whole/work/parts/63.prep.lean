/-! ===== Rounds: legs ===== -/
def lgI (F cl : Int → Int) (i : Int) (L : Int → Int) : Nat → Int → Int
  | 0 => L
  | e + 1 => fu (lgI F cl i L e) (4 * i + e) (F (cl e))
theorem lgI_at {F cl L : Int → Int} {i : Int} (n : Nat) {e : Nat} (he : e < n) : lgI F cl i L n (4 * i + e) = F (cl e) := by
  induction n with
  | zero => omega
  | succ n ih =>
    simp only [lgI]
    by_cases h : e = n
    · rw [h, fu_s]
    · rw [fu_n (by omega)]; exact ih (by omega)
theorem lgI_lt {F cl L : Int → Int} {i j : Int} (n : Nat) (hj : j < 4 * i) : lgI F cl i L n j = L j := by
  induction n with
  | zero => rfl
  | succ n ih =>
    simp only [lgI]
    rw [fu_n (by omega)]; exact ih
/-- from where the i-th row of legs goes -/
def fromI (a : Int) (cl : Int → Int) (i : Int) : Int := if i = 0 then a else cl (i - 1)
def prS (τ : St) (X : Dj) (L : Int → Int) : St := upA (wyD τ 168 X) 601 167 L
theorem pr1 {τ : St} {X : Dj} {L : Int → Int} : prS τ X L 601 167 = L := by unfold prS; exact upA_s
theorem prf {τ : St} {X : Dj} {L : Int → Int} : prS τ X L 1001 168 = X.1 := by unfold prS wyD; rw [upA_t (by omega)]; exact wy1
theorem prt {τ : St} {X : Dj} {L : Int → Int} {t o : Nat} (h0 : t ≠ 601) (h1 : t ≠ 1001) (h4 : t ≠ 1004) (h5 : t ≠ 1005) (h6 : t ≠ 1006) : prS τ X L t o = τ t o := by unfold prS wyD; rw [upA_t h0]; exact wyt h1 h4 h5 h6
theorem pru {τ : St} {X : Dj} {L L' : Int → Int} : upA (prS τ X L) 601 167 L' = prS τ X L' := by unfold prS; exact upA_upA
theorem wy_wy {σ : St} {a : Nat} {f o f' o' : Int → Int} {q q' : Int → Bool} {r r' : Int} : wyS (wyS σ a f q o r) a f' q' o' r' = wyS σ a f' q' o' r' := by
  conv => lhs; unfold wyS
  have e1 : upA (wyS σ a f q o r) 1001 a f' = wyS σ a f' q o r := wu1
  have e4 : upA (wyS σ a f' q o r) 1004 a (fun _ => (bs q').toInt) = wyS σ a f' q' o r := wu4
  have e5 : upA (wyS σ a f' q' o r) 1005 a o' = wyS σ a f' q' o' r := wu5
  have e6 : upA (wyS σ a f' q' o' r) 1006 a (fun _ => r') = wyS σ a f' q' o' r' := wu6
  show upA (upA (upA (upA (wyS σ a f q o r) 1001 a f') 1004 a fun _ => (bs q').toInt) 1005 a o') 1006 a (fun _ => r') = _
  rw [e1, e4, e5, e6]
theorem prw {τ : St} {X X' : Dj} {L : Int → Int} : wyD (prS τ X L) 168 X' = prS τ X' L := by
  unfold prS
  have : wyD (upA (wyD τ 168 X) 601 167 L) 168 X' = upA (wyD (wyD τ 168 X) 168 X') 601 167 L := by
    unfold wyD wyS
    rw [upA_comm (t := 601) (t' := 1001) (by omega), upA_comm (t := 601) (t' := 1004) (by omega), upA_comm (t := 601) (t' := 1005) (by omega), upA_comm (t := 601) (t' := 1006) (by omega)]
  rw [this]
  unfold wyD
  rw [wy_wy]
theorem prw0 {τ : St} {X' : Dj} : wyD τ 168 X' = prS τ X' (τ 601 167) := by
  unfold prS wyD wyS
  rw [upA_comm (t := 1006) (t' := 601) (by omega), upA_comm (t := 1005) (t' := 601) (by omega), upA_comm (t := 1004) (t' := 601) (by omega), upA_comm (t := 1001) (t' := 601) (by omega), upA_self]
/-- what legs hold, up to a row -/
def lgsU (W H : Int) (c : Int → Int) (N : Nat) (a : Int) (cl : Int → Int) (n i : Nat) (L : Int → Int) : Prop := ∀ j e : Nat, j < i → e < n → L (4 * j + e) = dD W H c (fromI a cl j) N (cl e)
theorem c67 {d n N : Nat} {k W H w : Int} {p s : Nat} {T : Tt} {σ : St} {Q : vmO → vmH → Prop} (hp : ob 4 p) (hs : ob 7 s) (hP : plK σ p W H) (hS : scK σ s) (hN : (N : Int) = W * H) (w0 : 0 ≤ w) (w1 : w < 5) (a0 : 0 ≤ σ 702 s w) (a1 : σ 702 s w < W * H) (hn : σ 406 p w = n) (hn4 : n ≤ 4) (hcl : ∀ e : Nat, e < n → 0 ≤ σ 407 p (4 * w + e) ∧ σ 407 p (4 * w + e) < W * H)
    (hQ : ∀ C X L, lgsU W H (prc σ p s (frB (σ 405 p 0) w)) N (σ 702 s w) (fun e => σ 407 p (4 * w + e)) n (n + 1) L → Q (.inl none) (E T (upA (prS (upA (upA (upA σ 604 167 fun _ => (n : Int)) 605 167 fun _ => σ 704 s 0) 1000 168 C) X L) 602 167 (cp (fun e => σ 408 p (4 * w + e)) (σ 602 167) n)))) : Ca (d + 5) k 67 [.ref 167, .ref p, .ref s, .int (i32 w)] (E T σ) Q := by
  have hp3 := ob_lt hp
  have hs3 := ob_lt hs
  have hr := ob_ro
  have hrw := ob_rw
  obtain ⟨hg, h, m0, m1, u0, u1⟩ := hP
  obtain ⟨hf, htk, n0, n1⟩ := hS
  have hm := wh_mul h
  have hfar : far = 1000000000 := rfl
  obtain ⟨c, hc⟩ : ∃ c, c = prc σ p s (frB (σ 405 p 0) w) := ⟨_, rfl⟩
  have hcs0 : csIn c (W * H) := by rw [hc]; intro j j0 j1; exact cst_in hf htk j0 (by omega)
  rw [← hc] at hQ
  rw [n67 _ _ _ _ _ _ _ _ _ hr]
  simp (disch := (first | assumption | omega | exact Nat.le_of_ble_eq_true rfl | rfl)) only [w67_0, w67_1, w67_2, w67_5, w67_6, w67_7, w67_10, w67_11, w67_12, w67_15, w67_18, w67_19, w67_22, w67_23, w67_24, w67_25, w67_26, w67_29, w67_32, w67_33, w67_37, w67_38, w67_41, w67_44, w67_46, w67_49, w67_50, w67_53, w67_54, w67_55, w67_58, w67_59, w67_62, w67_63, w67_64, w67_65, w67_67, w67_68, w67_69, w67_70, w67_71, w67_73, w67_74, w67_77, w67_78, w67_80, w67_83, w67_84, w67_88, w67_89, w67_92, w67_95, w67_96, w67_99, w67_100, w67_102, w67_103, w67_105, w67_106, w67_107, w67_110, w67_113, w67_114, w67_117, w67_118, w67_119, w67_120, w67_122, w67_123, w67_124, w67_125, w67_126, w67_129, w67_132, w67_135, w67_138, w67_139, w67_143, w67_144, w67_147, w67_150, w67_151, w67_154, w67_156, w67_157, w67_160, w67_161, w67_162, w67_163, w67_165, w67_166, w67_167, w67_168, w67_171, w67_174, Ko_n, Ko_v, vX_i, vX_r, vX_l, vX_j, reduceIte, hn, upA_t]
  rw [c27 (σ := upA (upA σ 604 167 fun _ => (n : Int)) 605 167 fun _ => σ 704 s 0) hp (by simp (disch := omega) only [upA_t]; exact u0) (by simp (disch := omega) only [upA_t]; exact u1) w0 w1]
  simp (disch := omega) only [upA_t]
  simp (disch := (first | assumption | omega | exact Nat.le_of_ble_eq_true rfl | rfl)) only [w67_0, w67_1, w67_2, w67_5, w67_6, w67_7, w67_10, w67_11, w67_12, w67_15, w67_18, w67_19, w67_22, w67_23, w67_24, w67_25, w67_26, w67_29, w67_32, w67_33, w67_37, w67_38, w67_41, w67_44, w67_46, w67_49, w67_50, w67_53, w67_54, w67_55, w67_58, w67_59, w67_62, w67_63, w67_64, w67_65, w67_67, w67_68, w67_69, w67_70, w67_71, w67_73, w67_74, w67_77, w67_78, w67_80, w67_83, w67_84, w67_88, w67_89, w67_92, w67_95, w67_96, w67_99, w67_100, w67_102, w67_103, w67_105, w67_106, w67_107, w67_110, w67_113, w67_114, w67_117, w67_118, w67_119, w67_120, w67_122, w67_123, w67_124, w67_125, w67_126, w67_129, w67_132, w67_135, w67_138, w67_139, w67_143, w67_144, w67_147, w67_150, w67_151, w67_154, w67_156, w67_157, w67_160, w67_161, w67_162, w67_163, w67_165, w67_166, w67_167, w67_168, w67_171, w67_174, Ko_n, Ko_v, vX_i, vX_r, vX_l, vX_j, reduceIte]
  rw [c95 (N := W * H) (σ := upA (upA σ 604 167 fun _ => (n : Int)) 605 167 fun _ => σ 704 s 0) hrw hp hs (by simp (disch := omega) only [upA_t]; exact hf) (by simp (disch := omega) only [upA_t]; exact htk) (by simp (disch := omega) only [upA_t]; exact m0) (by simp (disch := omega) only [upA_t]; exact m1) (by simp (disch := omega) only [upA_t]; exact n0) (by simp (disch := omega) only [upA_t]; omega) (by simp (disch := omega) only [upA_t]; rw [hg.1, hg.2.1]) (by omega) (by omega)]
  simp (disch := omega) only [upA_t]
  obtain ⟨C, hC⟩ : ∃ C, C = cp (cst (σ 700 s) (σ 701 s) (wiB (σ 403 p 0) (σ 705 s 0)) (frB (σ 405 p 0) w)) (σ 1000 168) (W * H) := ⟨_, rfl⟩
  rw [← hC]
  have hagr : agr (W * H) C c := by intro j j0 j1; rw [hC, hc, cp_lt j0 j1]; rfl
  have hcs : csIn C (W * H) := by intro j j0 j1; rw [hagr j j0 j1]; exact hcs0 j j0 j1
  obtain ⟨τ, hτ⟩ : ∃ τ, τ = upA (upA (upA σ 604 167 fun _ => (n : Int)) 605 167 fun _ => σ 704 s 0) 1000 168 C := ⟨_, rfl⟩
  rw [← hτ]
  have t1 : τ 1000 168 = C := by rw [hτ]; exact upA_s
  have t4 : τ 604 167 = fun _ => (n : Int) := by rw [hτ]; simp (disch := omega) only [upA_t, upA_s]
  have tt : ∀ t o, t ≠ 604 → t ≠ 605 → t ≠ 1000 → τ t o = σ t o := by intro t o x y z; rw [hτ, upA_t z, upA_t y, upA_t x]
  have hgτ : geo τ p W H := geo_t hg (tt _ _ (by omega) (by omega) (by omega)) (tt _ _ (by omega) (by omega) (by omega)) (tt _ _ (by omega) (by omega) (by omega)) (tt _ _ (by omega) (by omega) (by omega)) (tt _ _ (by omega) (by omega) (by omega)) (tt _ _ (by omega) (by omega) (by omega))
  have hgp : ∀ X L, geo (prS τ X L) p W H := fun X L => geo_t hgτ (prt (by omega) (by omega) (by omega) (by omega) (by omega)) (prt (by omega) (by omega) (by omega) (by omega) (by omega)) (prt (by omega) (by omega) (by omega) (by omega) (by omega)) (prt (by omega) (by omega) (by omega) (by omega) (by omega)) (prt (by omega) (by omega) (by omega) (by omega) (by omega)) (prt (by omega) (by omega) (by omega) (by omega) (by omega))
  have d1 : ∀ t, t ≠ 604 → t ≠ 605 → t ≠ 1000 → t ≠ 601 → t ≠ 1001 → t ≠ 1004 → t ≠ 1005 → t ≠ 1006 → ∀ X L o, prS τ X L t o = σ t o := by intro t x y z a b e f g X L o; rw [prt a b e f g]; exact tt t o x y z
  -- times
  have loop3 : ∀ (m e : Nat) (l5 l6 : Value) (X : Dj) (L : Int → Int), e + m = n → lgsU W H c N (σ 702 s w) (fun e => σ 407 p (4 * w + e)) n (n + 1) L → Wp (d + 5) M_X6_prepare 141 [.ref 167, .ref p, .ref s, .int (i32 w), .int (i32 e), l5, l6] [] (E T (upA (prS τ X L) 602 167 (cp (fun e => σ 408 p (4 * w + e)) (σ 602 167) e))) Q := by
    intro m
    induction m with
    | zero =>
      intro e l5 l6 X L he hL
      have he : e = n := by omega
      subst he
      rw [w67_141]
      simp (disch := (first | assumption | omega | exact Nat.le_of_ble_eq_true rfl | rfl)) only [w67_0, w67_1, w67_2, w67_5, w67_6, w67_7, w67_10, w67_11, w67_12, w67_15, w67_18, w67_19, w67_22, w67_23, w67_24, w67_25, w67_26, w67_29, w67_32, w67_33, w67_37, w67_38, w67_41, w67_44, w67_46, w67_49, w67_50, w67_53, w67_54, w67_55, w67_58, w67_59, w67_62, w67_63, w67_64, w67_65, w67_67, w67_68, w67_69, w67_70, w67_71, w67_73, w67_74, w67_77, w67_78, w67_80, w67_83, w67_84, w67_88, w67_89, w67_92, w67_95, w67_96, w67_99, w67_100, w67_102, w67_103, w67_105, w67_106, w67_107, w67_110, w67_113, w67_114, w67_117, w67_118, w67_119, w67_120, w67_122, w67_123, w67_124, w67_125, w67_126, w67_129, w67_132, w67_135, w67_138, w67_139, w67_143, w67_144, w67_147, w67_150, w67_151, w67_154, w67_156, w67_157, w67_160, w67_161, w67_162, w67_163, w67_165, w67_166, w67_167, w67_168, w67_171, w67_174, Ko_n, Ko_v, vX_i, vX_r, vX_l, vX_j, reduceIte, upA_t, prt, t4, Int.le_refl]
      have := hQ C X L hL
      rw [← hτ] at this
      exact this
    | succ m ih =>
      intro e l5 l6 X L he hL
      have ih' := ih (e + 1) l5 l6 X L (by omega) hL
      have e9 := d1 408 (by omega) (by omega) (by omega) (by omega) (by omega) (by omega) (by omega) (by omega) X L p
      rw [show cp (fun e => σ 408 p (4 * w + e)) (σ 602 167) ((e + 1 : Nat) : Int) = fu (cp (fun e => σ 408 p (4 * w + e)) (σ 602 167) e) e (σ 408 p (4 * w + e)) from (cp_fu (f := fun e => σ 408 p (4 * w + e)) (g := σ 602 167) (by omega : (0 : Int) ≤ e)).symm] at ih'
      rw [w67_141]
      simp (disch := (first | assumption | omega | exact Nat.le_of_ble_eq_true rfl | rfl)) only [w67_0, w67_1, w67_2, w67_5, w67_6, w67_7, w67_10, w67_11, w67_12, w67_15, w67_18, w67_19, w67_22, w67_23, w67_24, w67_25, w67_26, w67_29, w67_32, w67_33, w67_37, w67_38, w67_41, w67_44, w67_46, w67_49, w67_50, w67_53, w67_54, w67_55, w67_58, w67_59, w67_62, w67_63, w67_64, w67_65, w67_67, w67_68, w67_69, w67_70, w67_71, w67_73, w67_74, w67_77, w67_78, w67_80, w67_83, w67_84, w67_88, w67_89, w67_92, w67_95, w67_96, w67_99, w67_100, w67_102, w67_103, w67_105, w67_106, w67_107, w67_110, w67_113, w67_114, w67_117, w67_118, w67_119, w67_120, w67_122, w67_123, w67_124, w67_125, w67_126, w67_129, w67_132, w67_135, w67_138, w67_139, w67_143, w67_144, w67_147, w67_150, w67_151, w67_154, w67_156, w67_157, w67_160, w67_161, w67_162, w67_163, w67_165, w67_166, w67_167, w67_168, w67_171, w67_174, Ko_n, Ko_v, vX_i, vX_r, vX_l, vX_j, reduceIte, upA_t, upA_s, upA_upA, prt, t4, e9, show ¬ (n : Int) ≤ (e : Int) by omega, tt]
      exact ih'
  -- a row of legs
  have loop2 : ∀ (i : Nat) (f : Int) (X : Dj) (L : Int → Int), i ≤ n → (∀ l5 l6, Wp (d + 5) M_X6_prepare 35 [.ref 167, .ref p, .ref s, .int (i32 w), .int (i32 (i + 1)), l5, l6] [] (E T (prS τ X (lgI X.1 (fun e => σ 407 p (4 * w + e)) i L n))) Q) → ∀ (m e : Nat), e + m = n → Wp (d + 5) M_X6_prepare 86 [.ref 167, .ref p, .ref s, .int (i32 w), .int (i32 i), .int (i32 f), .int (i32 e)] [] (E T (prS τ X (lgI X.1 (fun e => σ 407 p (4 * w + e)) i L e))) Q := by
    intro i f X L hi hgo m
    induction m with
    | zero =>
      intro e he
      have he : e = n := by omega
      subst he
      rw [w67_86]
      simp (disch := (first | assumption | omega | exact Nat.le_of_ble_eq_true rfl | rfl)) only [w67_0, w67_1, w67_2, w67_5, w67_6, w67_7, w67_10, w67_11, w67_12, w67_15, w67_18, w67_19, w67_22, w67_23, w67_24, w67_25, w67_26, w67_29, w67_32, w67_33, w67_37, w67_38, w67_41, w67_44, w67_46, w67_49, w67_50, w67_53, w67_54, w67_55, w67_58, w67_59, w67_62, w67_63, w67_64, w67_65, w67_67, w67_68, w67_69, w67_70, w67_71, w67_73, w67_74, w67_77, w67_78, w67_80, w67_83, w67_84, w67_88, w67_89, w67_92, w67_95, w67_96, w67_99, w67_100, w67_102, w67_103, w67_105, w67_106, w67_107, w67_110, w67_113, w67_114, w67_117, w67_118, w67_119, w67_120, w67_122, w67_123, w67_124, w67_125, w67_126, w67_129, w67_132, w67_135, w67_138, w67_139, w67_143, w67_144, w67_147, w67_150, w67_151, w67_154, w67_156, w67_157, w67_160, w67_161, w67_162, w67_163, w67_165, w67_166, w67_167, w67_168, w67_171, w67_174, Ko_n, Ko_v, vX_i, vX_r, vX_l, vX_j, reduceIte, prt, t4, Int.le_refl]
      exact hgo _ _
    | succ m ih =>
      intro e he
      have ih' := ih (e + 1) (by omega)
      have hce := hcl e (by omega)
      have e7 := d1 407 (by omega) (by omega) (by omega) (by omega) (by omega) (by omega) (by omega) (by omega) X (lgI X.1 (fun e => σ 407 p (4 * w + e)) i L e) p
      simp only [lgI] at ih'
      rw [w67_86]
      simp (disch := (first | assumption | omega | exact Nat.le_of_ble_eq_true rfl | rfl)) only [w67_0, w67_1, w67_2, w67_5, w67_6, w67_7, w67_10, w67_11, w67_12, w67_15, w67_18, w67_19, w67_22, w67_23, w67_24, w67_25, w67_26, w67_29, w67_32, w67_33, w67_37, w67_38, w67_41, w67_44, w67_46, w67_49, w67_50, w67_53, w67_54, w67_55, w67_58, w67_59, w67_62, w67_63, w67_64, w67_65, w67_67, w67_68, w67_69, w67_70, w67_71, w67_73, w67_74, w67_77, w67_78, w67_80, w67_83, w67_84, w67_88, w67_89, w67_92, w67_95, w67_96, w67_99, w67_100, w67_102, w67_103, w67_105, w67_106, w67_107, w67_110, w67_113, w67_114, w67_117, w67_118, w67_119, w67_120, w67_122, w67_123, w67_124, w67_125, w67_126, w67_129, w67_132, w67_135, w67_138, w67_139, w67_143, w67_144, w67_147, w67_150, w67_151, w67_154, w67_156, w67_157, w67_160, w67_161, w67_162, w67_163, w67_165, w67_166, w67_167, w67_168, w67_171, w67_174, Ko_n, Ko_v, vX_i, vX_r, vX_l, vX_j, reduceIte, prt, t4, show ¬ (n : Int) ≤ (e : Int) by omega, tt, prf, pr1, pru]
      exact ih'
  have body : ∀ (i : Nat) (ρ : St) (L : Int → Int) (l5 l6 : Value), i ≤ n → (∀ X', wyD ρ 168 X' = prS τ X' L) → (∀ t o, t ≠ 601 → t ≠ 1001 → t ≠ 1004 → t ≠ 1005 → t ≠ 1006 → ρ t o = τ t o) → (∀ X l5 l6, Wp (d + 5) M_X6_prepare 35 [.ref 167, .ref p, .ref s, .int (i32 w), .int (i32 ((i + 1 : Nat) : Int)), l5, l6] [] (E T (prS τ X (lgI (dD W H c (fromI (σ 702 s w) (fun e => σ 407 p (4 * w + e)) i) N) (fun e => σ 407 p (4 * w + e)) i L n))) Q) → Wp (d + 5) M_X6_prepare 35 [.ref 167, .ref p, .ref s, .int (i32 w), .int (i32 i), l5, l6] [] (E T ρ) Q := by
    intro i ρ L l5 l6 hi hρ hρt hgo
    have r4 : ρ 604 167 = fun _ => (n : Int) := by rw [hρt _ _ (by omega) (by omega) (by omega) (by omega) (by omega)]; exact t4
    have r2 : ρ 702 s = σ 702 s := by rw [hρt _ _ (by omega) (by omega) (by omega) (by omega) (by omega)]; exact tt _ _ (by omega) (by omega) (by omega)
    have r7 : ρ 407 p = σ 407 p := by rw [hρt _ _ (by omega) (by omega) (by omega) (by omega) (by omega)]; exact tt _ _ (by omega) (by omega) (by omega)
    have r0 : ρ 1000 168 = C := by rw [hρt _ _ (by omega) (by omega) (by omega) (by omega) (by omega)]; exact t1
    have hgρ : geo ρ p W H := geo_t hgτ (hρt _ _ (by omega) (by omega) (by omega) (by omega) (by omega)) (hρt _ _ (by omega) (by omega) (by omega) (by omega) (by omega)) (hρt _ _ (by omega) (by omega) (by omega) (by omega) (by omega)) (hρt _ _ (by omega) (by omega) (by omega) (by omega) (by omega)) (hρt _ _ (by omega) (by omega) (by omega) (by omega) (by omega)) (hρt _ _ (by omega) (by omega) (by omega) (by omega) (by omega))
    have hfi : 0 ≤ fromI (σ 702 s w) (fun e => σ 407 p (4 * w + e)) i ∧ fromI (σ 702 s w) (fun e => σ 407 p (4 * w + e)) i < W * H := by
      unfold fromI
      by_cases h0 : (i : Int) = 0
      · rw [if_pos h0]; exact ⟨a0, a1⟩
      · rw [if_neg h0]
        have := hcl (i - 1) (by omega)
        rw [show ((i - 1 : Nat) : Int) = (i : Int) - 1 by omega] at this
        exact this
    have mid : Wp (d + 5) M_X6_prepare 71 [.ref 167, .ref p, .ref s, .int (i32 w), .int (i32 i), l5, l6] [.int (i32 (fromI (σ 702 s w) (fun e => σ 407 p (4 * w + e)) i))] (E T ρ) Q := by
      generalize hz : fromI (σ 702 s w) (fun e => σ 407 p (4 * w + e)) i = z at *
      simp (disch := (first | assumption | omega | exact Nat.le_of_ble_eq_true rfl | rfl)) only [w67_0, w67_1, w67_2, w67_5, w67_6, w67_7, w67_10, w67_11, w67_12, w67_15, w67_18, w67_19, w67_22, w67_23, w67_24, w67_25, w67_26, w67_29, w67_32, w67_33, w67_37, w67_38, w67_41, w67_44, w67_46, w67_49, w67_50, w67_53, w67_54, w67_55, w67_58, w67_59, w67_62, w67_63, w67_64, w67_65, w67_67, w67_68, w67_69, w67_70, w67_71, w67_73, w67_74, w67_77, w67_78, w67_80, w67_83, w67_84, w67_88, w67_89, w67_92, w67_95, w67_96, w67_99, w67_100, w67_102, w67_103, w67_105, w67_106, w67_107, w67_110, w67_113, w67_114, w67_117, w67_118, w67_119, w67_120, w67_122, w67_123, w67_124, w67_125, w67_126, w67_129, w67_132, w67_135, w67_138, w67_139, w67_143, w67_144, w67_147, w67_150, w67_151, w67_154, w67_156, w67_157, w67_160, w67_161, w67_162, w67_163, w67_165, w67_166, w67_167, w67_168, w67_171, w67_174, Ko_n, Ko_v, vX_i, vX_r, vX_l, vX_j, reduceIte]
      rw [c98 (σ := ρ) hrw hp hgρ h hN (by rw [r0]; exact hcs) hfi.1 hfi.2, hρ, r0]
      simp (disch := (first | assumption | omega | exact Nat.le_of_ble_eq_true rfl | rfl)) only [w67_0, w67_1, w67_2, w67_5, w67_6, w67_7, w67_10, w67_11, w67_12, w67_15, w67_18, w67_19, w67_22, w67_23, w67_24, w67_25, w67_26, w67_29, w67_32, w67_33, w67_37, w67_38, w67_41, w67_44, w67_46, w67_49, w67_50, w67_53, w67_54, w67_55, w67_58, w67_59, w67_62, w67_63, w67_64, w67_65, w67_67, w67_68, w67_69, w67_70, w67_71, w67_73, w67_74, w67_77, w67_78, w67_80, w67_83, w67_84, w67_88, w67_89, w67_92, w67_95, w67_96, w67_99, w67_100, w67_102, w67_103, w67_105, w67_106, w67_107, w67_110, w67_113, w67_114, w67_117, w67_118, w67_119, w67_120, w67_122, w67_123, w67_124, w67_125, w67_126, w67_129, w67_132, w67_135, w67_138, w67_139, w67_143, w67_144, w67_147, w67_150, w67_151, w67_154, w67_156, w67_157, w67_160, w67_161, w67_162, w67_163, w67_165, w67_166, w67_167, w67_168, w67_171, w67_174, Ko_n, Ko_v, vX_i, vX_r, vX_l, vX_j, reduceIte]
      have hsp := spr_dD (g := ρ 1001 168) (o := ρ 1005 168) h hagr hcs hN hfi.1 hfi.2
      generalize spr W H C z N (ρ 1001 168) (ρ 1005 168) = X at *
      have e1 : lgI X.1 (fun e => σ 407 p (4 * w + e)) i L n = lgI (dD W H c z N) (fun e => σ 407 p (4 * w + e)) i L n := by
        have : ∀ m : Nat, m ≤ n → lgI X.1 (fun e => σ 407 p (4 * w + e)) i L m = lgI (dD W H c z N) (fun e => σ 407 p (4 * w + e)) i L m := by
          intro m
          induction m with
          | zero => intro _; rfl
          | succ m ih =>
            intro hmn
            have hce := hcl m (by omega)
            simp only [lgI]
            rw [ih (by omega), hsp _ hce.1 (by omega)]
        exact this n (Nat.le_refl _)
      exact loop2 i z X L hi (fun l5 l6 => by rw [e1]; exact hgo X l5 l6) n 0 (by omega)
    unfold fromI at mid
    rw [w67_35]
    by_cases h0 : (i : Int) = 0
    · rw [if_pos h0] at mid
      simp (disch := (first | assumption | omega | exact Nat.le_of_ble_eq_true rfl | rfl)) only [w67_37, w67_38, w67_41, w67_44, w67_46, w67_49, w67_50, w67_53, w67_54, w67_55, r4, show ¬ (n : Int) < (i : Int) by omega, show ((i : Int) = 0) = True from eq_true h0, not_true, r2, if_false]
      exact mid
    · rw [if_neg h0] at mid
      simp (disch := (first | assumption | omega | exact Nat.le_of_ble_eq_true rfl | rfl)) only [w67_37, w67_38, w67_41, w67_44, w67_46, w67_58, w67_59, w67_62, w67_63, w67_64, w67_65, w67_67, w67_68, w67_69, w67_70, r4, show ¬ (n : Int) < (i : Int) by omega, h0, not_false_eq_true, r7, if_true, if_false]
      rw [show 4 * w + (i : Int) - 1 = 4 * w + ((i : Int) - 1) by omega]
      exact mid
  have hup : ∀ (i : Nat) (L : Int → Int), i ≤ n → lgsU W H c N (σ 702 s w) (fun e => σ 407 p (4 * w + e)) n i L → lgsU W H c N (σ 702 s w) (fun e => σ 407 p (4 * w + e)) n (i + 1) (lgI (dD W H c (fromI (σ 702 s w) (fun e => σ 407 p (4 * w + e)) i) N) (fun e => σ 407 p (4 * w + e)) i L n) := by
    intro i L hi hL j e hj he
    by_cases hji : j = i
    · rw [hji]; exact lgI_at n he
    · rw [lgI_lt n (by omega)]; exact hL j e (by omega) he
  have outer : ∀ (m i : Nat) (X : Dj) (L : Int → Int) (l5 l6 : Value), i + m = n + 1 → lgsU W H c N (σ 702 s w) (fun e => σ 407 p (4 * w + e)) n i L → Wp (d + 5) M_X6_prepare 35 [.ref 167, .ref p, .ref s, .int (i32 w), .int (i32 i), l5, l6] [] (E T (prS τ X L)) Q := by
    intro m
    induction m with
    | zero =>
      intro i X L l5 l6 hi hL
      have hi : i = n + 1 := by omega
      subst hi
      rw [w67_35]
      simp (disch := (first | assumption | omega | exact Nat.le_of_ble_eq_true rfl | rfl)) only [w67_0, w67_1, w67_2, w67_5, w67_6, w67_7, w67_10, w67_11, w67_12, w67_15, w67_18, w67_19, w67_22, w67_23, w67_24, w67_25, w67_26, w67_29, w67_32, w67_33, w67_37, w67_38, w67_41, w67_44, w67_46, w67_49, w67_50, w67_53, w67_54, w67_55, w67_58, w67_59, w67_62, w67_63, w67_64, w67_65, w67_67, w67_68, w67_69, w67_70, w67_71, w67_73, w67_74, w67_77, w67_78, w67_80, w67_83, w67_84, w67_88, w67_89, w67_92, w67_95, w67_96, w67_99, w67_100, w67_102, w67_103, w67_105, w67_106, w67_107, w67_110, w67_113, w67_114, w67_117, w67_118, w67_119, w67_120, w67_122, w67_123, w67_124, w67_125, w67_126, w67_129, w67_132, w67_135, w67_138, w67_139, w67_143, w67_144, w67_147, w67_150, w67_151, w67_154, w67_156, w67_157, w67_160, w67_161, w67_162, w67_163, w67_165, w67_166, w67_167, w67_168, w67_171, w67_174, Ko_n, Ko_v, vX_i, vX_r, vX_l, vX_j, reduceIte, prt, t4, show (n : Int) < ((n + 1 : Nat) : Int) by omega]
      have := loop3 n 0 l5 l6 X L (by omega) hL
      rw [show ((0 : Nat) : Int) = 0 from rfl, cp_0] at this
      have e0 : upA (prS τ X L) 602 167 (σ 602 167) = prS τ X L := by
        have e2 : prS τ X L 602 167 = σ 602 167 := d1 602 (by omega) (by omega) (by omega) (by omega) (by omega) (by omega) (by omega) (by omega) X L 167
        rw [← e2, upA_self]
      rw [e0] at this
      exact this
    | succ m ih =>
      intro i X L l5 l6 hi hL
      exact body i (prS τ X L) L l5 l6 (by omega) (fun X' => prw) (fun t o b1 b2 b3 b4 b5 => prt b1 b2 b3 b4 b5) (fun X' l5 l6 => ih (i + 1) X' _ l5 l6 (by omega) (hup i L (by omega) hL))
  have key := body 0 τ (τ 601 167) vmJ vmJ (by omega) (fun X' => prw0) (fun t o _ _ _ _ _ => rfl) (fun X' l5 l6 => outer n 1 X' _ l5 l6 (by omega) (hup 0 (τ 601 167) (by omega) (fun j e hj => by omega)))
  simp (disch := (first | assumption | omega | exact Nat.le_of_ble_eq_true rfl | rfl)) only [w67_0, w67_1, w67_2, w67_5, w67_6, w67_7, w67_10, w67_11, w67_12, w67_15, w67_18, w67_19, w67_22, w67_23, w67_24, w67_25, w67_26, w67_29, w67_32, w67_33, w67_37, w67_38, w67_41, w67_44, w67_46, w67_49, w67_50, w67_53, w67_54, w67_55, w67_58, w67_59, w67_62, w67_63, w67_64, w67_65, w67_67, w67_68, w67_69, w67_70, w67_71, w67_73, w67_74, w67_77, w67_78, w67_80, w67_83, w67_84, w67_88, w67_89, w67_92, w67_95, w67_96, w67_99, w67_100, w67_102, w67_103, w67_105, w67_106, w67_107, w67_110, w67_113, w67_114, w67_117, w67_118, w67_119, w67_120, w67_122, w67_123, w67_124, w67_125, w67_126, w67_129, w67_132, w67_135, w67_138, w67_139, w67_143, w67_144, w67_147, w67_150, w67_151, w67_154, w67_156, w67_157, w67_160, w67_161, w67_162, w67_163, w67_165, w67_166, w67_167, w67_168, w67_171, w67_174, Ko_n, Ko_v, vX_i, vX_r, vX_l, vX_j, reduceIte]
  exact key
