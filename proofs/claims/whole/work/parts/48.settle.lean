/-! ===== Ways: settle ===== -/
theorem nb_in {W H k d : Int} (h : wh2 W H) (k0 : 0 ≤ k) (k1 : k < W * H) (hn : nbC W H k d ≠ -1) : 0 ≤ nbC W H k d ∧ nbC W H k d < W * H ∧ nbC W H k d ≠ k := by
  obtain ⟨a, b, c, e⟩ := h
  unfold nbC at hn ⊢
  have hW : W = 2 ∨ W = 3 ∨ W = 4 ∨ W = 5 ∨ W = 6 := by omega
  rcases hW with rfl | rfl | rfl | rfl | rfl <;> (repeat' split) <;> omega
def rl1 (W H : Int) (c : Int → Int) (k d : Int) (f : Int → Int) : Int → Int := if nbC W H k d = -1 ∨ c (nbC W H k d) = -1 then f else fu f (nbC W H k d) (min (f (nbC W H k d)) (f k + c (nbC W H k d)))
def rlx (W H : Int) (c : Int → Int) (k : Int) (f : Int → Int) : Nat → Int → Int
  | 0 => f
  | n + 1 => rl1 W H c k n (rlx W H c k f n)
def frIn (f : Int → Int) : Prop := ∀ k, 0 ≤ k → k < 36 → 0 ≤ f k ∧ f k ≤ far
def csIn (c : Int → Int) (N : Int) : Prop := ∀ k, 0 ≤ k → k < N → -1 ≤ c k ∧ c k ≤ 181 ∧ c k ≠ 0
theorem rl1_in {W H k d : Int} {c f : Int → Int} (h : wh2 W H) (hc : csIn c (W * H)) (k0 : 0 ≤ k) (k1 : k < W * H) (hf : frIn f) : frIn (rl1 W H c k d f) := by
  have hm := wh_mul h
  unfold rl1
  by_cases hn : nbC W H k d = -1 ∨ c (nbC W H k d) = -1
  · rw [if_pos hn]; exact hf
  · rw [if_neg hn]
    have hnn : nbC W H k d ≠ -1 := fun z => hn (Or.inl z)
    have hi := nb_in h k0 k1 hnn
    have hcn := hc _ hi.1 hi.2.1
    have h1 : c (nbC W H k d) ≠ -1 := fun z => hn (Or.inr z)
    intro j j0 j1
    by_cases hj : j = nbC W H k d
    · rw [hj, fu_s]
      have a := hf (nbC W H k d) hi.1 (by omega)
      have b := hf k k0 (by omega)
      omega
    · rw [fu_n hj]; exact hf j j0 j1
theorem rlx_in {W H k : Int} {c f : Int → Int} (h : wh2 W H) (hc : csIn c (W * H)) (k0 : 0 ≤ k) (k1 : k < W * H) (hf : frIn f) (n : Nat) : frIn (rlx W H c k f n) := by
  induction n with
  | zero => exact hf
  | succ n ih => exact rl1_in h hc k0 k1 ih
/-- the rows of a Ways that settle changes -/
def wyS (σ : St) (a : Nat) (f : Int → Int) (q : Int → Bool) (o : Int → Int) (r : Int) : St := upA (upA (upA (upA σ 1001 a f) 1004 a fun _ => (bs q).toInt) 1005 a o) 1006 a fun _ => r
theorem wy1 {σ : St} {a : Nat} {f o : Int → Int} {q : Int → Bool} {r : Int} : wyS σ a f q o r 1001 a = f := by unfold wyS; rw [upA_t (by omega), upA_t (by omega), upA_t (by omega), upA_s]
theorem wy4 {σ : St} {a : Nat} {f o : Int → Int} {q : Int → Bool} {r : Int} : wyS σ a f q o r 1004 a = fun _ => (bs q).toInt := by unfold wyS; rw [upA_t (by omega), upA_t (by omega), upA_s]
theorem wy5 {σ : St} {a : Nat} {f o : Int → Int} {q : Int → Bool} {r : Int} : wyS σ a f q o r 1005 a = o := by unfold wyS; rw [upA_t (by omega), upA_s]
theorem wy6 {σ : St} {a : Nat} {f o : Int → Int} {q : Int → Bool} {r : Int} : wyS σ a f q o r 1006 a = fun _ => r := by unfold wyS; rw [upA_s]
theorem wyt {σ : St} {a t b : Nat} {f o : Int → Int} {q : Int → Bool} {r : Int} (h1 : t ≠ 1001) (h4 : t ≠ 1004) (h5 : t ≠ 1005) (h6 : t ≠ 1006) : wyS σ a f q o r t b = σ t b := by unfold wyS; rw [upA_t h6, upA_t h5, upA_t h4, upA_t h1]
theorem wyo {σ : St} {a t b : Nat} {f o : Int → Int} {q : Int → Bool} {r : Int} (h : b ≠ a) : wyS σ a f q o r t b = σ t b := by unfold wyS; rw [upA_o h, upA_o h, upA_o h, upA_o h]
theorem wu1 {σ : St} {a : Nat} {f g o : Int → Int} {q : Int → Bool} {r : Int} : upA (wyS σ a f q o r) 1001 a g = wyS σ a g q o r := by
  unfold wyS
  rw [upA_comm (t := 1006) (t' := 1001) (by omega), upA_comm (t := 1005) (t' := 1001) (by omega), upA_comm (t := 1004) (t' := 1001) (by omega), upA_upA]
theorem wu4 {σ : St} {a : Nat} {f o : Int → Int} {q p : Int → Bool} {r : Int} : upA (wyS σ a f q o r) 1004 a (fun _ => (bs p).toInt) = wyS σ a f p o r := by
  unfold wyS
  rw [upA_comm (t := 1006) (t' := 1004) (by omega), upA_comm (t := 1005) (t' := 1004) (by omega), upA_upA]
theorem wu5 {σ : St} {a : Nat} {f g o : Int → Int} {q : Int → Bool} {r : Int} : upA (wyS σ a f q o r) 1005 a g = wyS σ a f q g r := by
  unfold wyS
  rw [upA_comm (t := 1006) (t' := 1005) (by omega), upA_upA]
theorem wu6 {σ : St} {a : Nat} {f o : Int → Int} {q : Int → Bool} {r s : Int} : upA (wyS σ a f q o r) 1006 a (fun _ => s) = wyS σ a f q o s := by
  unfold wyS
  rw [upA_upA]
abbrev Dj : Type := (Int → Int) × (Int → Bool) × (Int → Int) × Int
def djS (W H : Int) (c : Int → Int) (N : Nat) (x : Dj) : Dj := if (nr x.1 x.2.1 N).2 = -1 then x else (rlx W H c (nr x.1 x.2.1 N).2 x.1 4, (fun k => x.2.1 k || decide (k = (nr x.1 x.2.1 N).2)), fu x.2.2.1 x.2.2.2 (nr x.1 x.2.1 N).2, x.2.2.2 + 1)
def dj (W H : Int) (c : Int → Int) (N : Nat) (x : Dj) : Nat → Dj
  | 0 => x
  | n + 1 => djS W H c N (dj W H c N x n)
def wyD (σ : St) (a : Nat) (x : Dj) : St := wyS σ a x.1 x.2.1 x.2.2.1 x.2.2.2
theorem dj_in {W H : Int} {c : Int → Int} {N : Nat} {x : Dj} (h : wh2 W H) (hc : csIn c (W * H)) (hN : (N : Int) = W * H) (hf : frIn x.1) (hr0 : x.2.2.2 = 0) (n : Nat) : frIn (dj W H c N x n).1 ∧ 0 ≤ (dj W H c N x n).2.2.2 ∧ (dj W H c N x n).2.2.2 ≤ n := by
  have hm := wh_mul h
  induction n with
  | zero => exact ⟨hf, by show 0 ≤ x.2.2.2; omega, by show x.2.2.2 ≤ ((0 : Nat) : Int); omega⟩
  | succ n ih =>
    show frIn (djS W H c N (dj W H c N x n)).1 ∧ 0 ≤ (djS W H c N (dj W H c N x n)).2.2.2 ∧ (djS W H c N (dj W H c N x n)).2.2.2 ≤ ((n + 1 : Nat) : Int)
    unfold djS
    have ok := nr_ok ih.1 (q := (dj W H c N x n).2.1) N (by omega)
    by_cases hz : (nr (dj W H c N x n).1 (dj W H c N x n).2.1 N).2 = -1
    · rw [if_pos hz]; exact ⟨ih.1, ih.2.1, by omega⟩
    · rw [if_neg hz]
      refine ⟨rlx_in h hc (by omega) (by omega) ih.1 4, ?_, ?_⟩
      · show 0 ≤ (dj W H c N x n).2.2.2 + 1; omega
      · show (dj W H c N x n).2.2.2 + 1 ≤ ((n + 1 : Nat) : Int); omega
theorem dj_fix {W H : Int} {c : Int → Int} {N : Nat} {x : Dj} {n : Nat} (hz : (nr (dj W H c N x n).1 (dj W H c N x n).2.1 N).2 = -1) (m : Nat) : dj W H c N x (n + m) = dj W H c N x n := by
  induction m with
  | zero => rfl
  | succ m ih =>
    show djS W H c N (dj W H c N x (n + m)) = _
    rw [ih]
    unfold djS
    rw [if_pos hz]
theorem c100 {d : Nat} {k W H : Int} {a p N : Nat} {T : Tt} {σ : St} {Q : vmO → vmH → Prop} (ha : ob 10 a) (hp : ob 4 p) (hg : geo σ p W H) (h : wh2 W H) (hN : (N : Int) = W * H) (hc : csIn (σ 1000 a) (W * H)) (hf : frIn (σ 1001 a)) : Ca (d + 2) k 100 [.ref a, .ref p] (E T σ) Q = Q (.inl none) (E T (wyD σ a (dj W H (σ 1000 a) N (σ 1001 a, (fun _ => false), σ 1005 a, 0) N))) := by
  have ha3 := ob_lt ha
  have hp3 := ob_lt hp
  have hm := wh_mul h
  have hfar : far = 1000000000 := rfl
  obtain ⟨g1, g2, g3, g4, g5, g6⟩ := id hg
  have hcell : σ 401 p 0 * σ 402 p 0 = N := by rw [g1, g2, hN]
  have inner : ∀ (R : Prop) (i z : Int) (f : Int → Int) (q : Int → Bool) (o : Int → Int) (r : Int), 0 ≤ z → z < W * H → frIn f → (∀ l5, Wp (d + 2) M_X10_settle 12 [.ref a, .ref p, .int (i32 (i + 1)), .int (i32 z), .int (i32 (4 * z + 4)), l5] [] (E T (wyS σ a (rlx W H (σ 1000 a) z f 4) q o r)) Q = R) → ∀ (m j : Nat) (l5 : Value), j + m = 4 → Wp (d + 2) M_X10_settle 72 [.ref a, .ref p, .int (i32 i), .int (i32 z), .int (i32 (4 * z + j)), l5] [] (E T (wyS σ a (rlx W H (σ 1000 a) z f j) q o r)) Q = R := by
    intro R i z f q o r z0 z1 hfr hR m
    induction m with
    | zero =>
      intro j l5 hj
      have hj : j = 4 := by omega
      subst hj
      rw [w100_72]
      simp (disch := (first | assumption | omega | exact Nat.le_of_ble_eq_true rfl | rfl)) only [w100_0, w100_1, w100_2, w100_5, w100_6, w100_7, w100_10, w100_11, w100_13, w100_14, w100_17, w100_20, w100_21, w100_22, w100_25, w100_28, w100_29, w100_30, w100_31, w100_34, w100_35, w100_36, w100_37, w100_40, w100_41, w100_42, w100_43, w100_44, w100_47, w100_48, w100_51, w100_52, w100_55, w100_56, w100_57, w100_58, w100_59, w100_62, w100_63, w100_64, w100_67, w100_68, w100_69, w100_70, w100_74, w100_75, w100_76, w100_77, w100_78, w100_79, w100_82, w100_83, w100_86, w100_88, w100_89, w100_91, w100_93, w100_94, w100_97, w100_98, w100_101, w100_103, w100_104, w100_105, w100_108, w100_109, w100_112, w100_114, w100_115, w100_118, w100_120, w100_121, w100_122, w100_125, w100_126, w100_127, w100_128, w100_131, w100_133, w100_134, w100_135, w100_138, w100_139, w100_142, w100_145, w100_148, w100_151, Ko_n, Ko_v, vX_i, vX_r, vX_l, vX_j, reduceIte, show (4 * z + ((4 : Nat) : Int)) = 4 * z + 4 by omega, Int.le_refl]
      exact hR l5
    | succ m ih =>
      intro j l5 hj
      have hb := g6 z j z0 z1 (by omega) (by omega)
      have hfj := rlx_in h hc z0 z1 hfr j
      have hfz := hfj z z0 (by omega)
      have e1 : (4 * z + (j : Int) + 1) = 4 * z + ((j + 1 : Nat) : Int) := by omega
      have ih' := fun l => ih (j + 1) l (by omega)
      rw [show rlx W H (σ 1000 a) z f (j + 1) = rl1 W H (σ 1000 a) z j (rlx W H (σ 1000 a) z f j) from rfl] at ih'
      unfold rl1 at ih'
      rw [w100_72]
      by_cases hn : nbC W H z j = -1
      · rw [if_pos (Or.inl hn)] at ih'
        simp (disch := (first | assumption | omega | exact Nat.le_of_ble_eq_true rfl | rfl)) only [w100_0, w100_1, w100_2, w100_5, w100_6, w100_7, w100_10, w100_11, w100_13, w100_14, w100_17, w100_20, w100_21, w100_22, w100_25, w100_28, w100_29, w100_30, w100_31, w100_34, w100_35, w100_36, w100_37, w100_40, w100_41, w100_42, w100_43, w100_44, w100_47, w100_48, w100_51, w100_52, w100_55, w100_56, w100_57, w100_58, w100_59, w100_62, w100_63, w100_64, w100_67, w100_68, w100_69, w100_70, w100_74, w100_75, w100_76, w100_77, w100_78, w100_79, w100_82, w100_83, w100_86, w100_88, w100_89, w100_91, w100_93, w100_94, w100_97, w100_98, w100_101, w100_103, w100_104, w100_105, w100_108, w100_109, w100_112, w100_114, w100_115, w100_118, w100_120, w100_121, w100_122, w100_125, w100_126, w100_127, w100_128, w100_131, w100_133, w100_134, w100_135, w100_138, w100_139, w100_142, w100_145, w100_148, w100_151, Ko_n, Ko_v, vX_i, vX_r, vX_l, vX_j, reduceIte, show ¬ (4 * z + 4 ≤ 4 * z + (j : Int)) by omega, wyt, hb, hn, e1]
        exact ih' _
      · have hi := nb_in h z0 z1 hn
        have hcn := hc _ hi.1 hi.2.1
        have hfn := hfj _ hi.1 (by omega)
        by_cases hx : σ 1000 a (nbC W H z j) = -1
        · rw [if_pos (Or.inr hx)] at ih'
          simp (disch := (first | assumption | omega | exact Nat.le_of_ble_eq_true rfl | rfl)) only [w100_0, w100_1, w100_2, w100_5, w100_6, w100_7, w100_10, w100_11, w100_13, w100_14, w100_17, w100_20, w100_21, w100_22, w100_25, w100_28, w100_29, w100_30, w100_31, w100_34, w100_35, w100_36, w100_37, w100_40, w100_41, w100_42, w100_43, w100_44, w100_47, w100_48, w100_51, w100_52, w100_55, w100_56, w100_57, w100_58, w100_59, w100_62, w100_63, w100_64, w100_67, w100_68, w100_69, w100_70, w100_74, w100_75, w100_76, w100_77, w100_78, w100_79, w100_82, w100_83, w100_86, w100_88, w100_89, w100_91, w100_93, w100_94, w100_97, w100_98, w100_101, w100_103, w100_104, w100_105, w100_108, w100_109, w100_112, w100_114, w100_115, w100_118, w100_120, w100_121, w100_122, w100_125, w100_126, w100_127, w100_128, w100_131, w100_133, w100_134, w100_135, w100_138, w100_139, w100_142, w100_145, w100_148, w100_151, Ko_n, Ko_v, vX_i, vX_r, vX_l, vX_j, reduceIte, show ¬ (4 * z + 4 ≤ 4 * z + (j : Int)) by omega, wyt, hb, hn, hx, e1]
          exact ih' _
        · rw [if_neg (fun w => w.elim hn hx)] at ih'
          simp (disch := (first | assumption | omega | exact Nat.le_of_ble_eq_true rfl | rfl)) only [w100_0, w100_1, w100_2, w100_5, w100_6, w100_7, w100_10, w100_11, w100_13, w100_14, w100_17, w100_20, w100_21, w100_22, w100_25, w100_28, w100_29, w100_30, w100_31, w100_34, w100_35, w100_36, w100_37, w100_40, w100_41, w100_42, w100_43, w100_44, w100_47, w100_48, w100_51, w100_52, w100_55, w100_56, w100_57, w100_58, w100_59, w100_62, w100_63, w100_64, w100_67, w100_68, w100_69, w100_70, w100_74, w100_75, w100_76, w100_77, w100_78, w100_79, w100_82, w100_83, w100_86, w100_88, w100_89, w100_91, w100_93, w100_94, w100_97, w100_98, w100_101, w100_103, w100_104, w100_105, w100_108, w100_109, w100_112, w100_114, w100_115, w100_118, w100_120, w100_121, w100_122, w100_125, w100_126, w100_127, w100_128, w100_131, w100_133, w100_134, w100_135, w100_138, w100_139, w100_142, w100_145, w100_148, w100_151, Ko_n, Ko_v, vX_i, vX_r, vX_l, vX_j, reduceIte, show ¬ (4 * z + 4 ≤ 4 * z + (j : Int)) by omega, wyt, hb, hn, hx, e1, wy1, wu1]
          exact ih' _
  have outer : ∀ (m n : Nat) (l3 l4 l5 : Value), n + m = N → Wp (d + 2) M_X10_settle 12 [.ref a, .ref p, .int (i32 n), l3, l4, l5] [] (E T (wyD σ a (dj W H (σ 1000 a) N (σ 1001 a, (fun _ => false), σ 1005 a, 0) n))) Q = Q (.inl none) (E T (wyD σ a (dj W H (σ 1000 a) N (σ 1001 a, (fun _ => false), σ 1005 a, 0) N))) := by
    intro m
    induction m with
    | zero =>
      intro n l3 l4 l5 hn
      have hn : n = N := by omega
      subst hn
      unfold wyD
      rw [w100_12]
      simp (disch := (first | assumption | omega | exact Nat.le_of_ble_eq_true rfl | rfl)) only [w100_0, w100_1, w100_2, w100_5, w100_6, w100_7, w100_10, w100_11, w100_13, w100_14, w100_17, w100_20, w100_21, w100_22, w100_25, w100_28, w100_29, w100_30, w100_31, w100_34, w100_35, w100_36, w100_37, w100_40, w100_41, w100_42, w100_43, w100_44, w100_47, w100_48, w100_51, w100_52, w100_55, w100_56, w100_57, w100_58, w100_59, w100_62, w100_63, w100_64, w100_67, w100_68, w100_69, w100_70, w100_74, w100_75, w100_76, w100_77, w100_78, w100_79, w100_82, w100_83, w100_86, w100_88, w100_89, w100_91, w100_93, w100_94, w100_97, w100_98, w100_101, w100_103, w100_104, w100_105, w100_108, w100_109, w100_112, w100_114, w100_115, w100_118, w100_120, w100_121, w100_122, w100_125, w100_126, w100_127, w100_128, w100_131, w100_133, w100_134, w100_135, w100_138, w100_139, w100_142, w100_145, w100_148, w100_151, Ko_n, Ko_v, vX_i, vX_r, vX_l, vX_j, reduceIte, c26, wyt, hcell, Int.le_refl]
    | succ m ih =>
      intro n l3 l4 l5 hn
      have hin := dj_in (x := (σ 1001 a, (fun _ => false), σ 1005 a, 0)) h hc hN hf rfl n
      have ih' := fun l4 l5 l6 => ih (n + 1) l4 l5 l6 (by omega)
      rw [show dj W H (σ 1000 a) N (σ 1001 a, (fun _ => false), σ 1005 a, 0) (n + 1) = djS W H (σ 1000 a) N (dj W H (σ 1000 a) N (σ 1001 a, (fun _ => false), σ 1005 a, 0) n) from rfl] at ih'
      have hfx := dj_fix (W := W) (H := H) (c := σ 1000 a) (N := N) (x := (σ 1001 a, (fun _ => false), σ 1005 a, 0)) (n := n)
      generalize dj W H (σ 1000 a) N (σ 1001 a, (fun _ => false), σ 1005 a, 0) n = x at hin ih' hfx ⊢
      obtain ⟨f, q, o, r⟩ := x
      obtain ⟨hin1, hin2, hin3⟩ := hin
      dsimp only at hin1 hin2 hin3 hfx
      have hq : i64 (wyS σ a f q o r 1004 a 0) = bs q := by rw [wy4, i64_toInt]
      have hfw : ∀ k, 0 ≤ k → k < 36 → 0 ≤ wyS σ a f q o r 1001 a k ∧ wyS σ a f q o r 1001 a k ≤ far := by rw [wy1]; exact hin1
      have ok := nr_ok hin1 (q := q) N (by omega)
      unfold wyD
      rw [w100_12]
      simp (disch := (first | assumption | omega | exact Nat.le_of_ble_eq_true rfl | rfl)) only [w100_0, w100_1, w100_2, w100_5, w100_6, w100_7, w100_10, w100_11, w100_13, w100_14, w100_17, w100_20, w100_21, w100_22, w100_25, w100_28, w100_29, w100_30, w100_31, w100_34, w100_35, w100_36, w100_37, w100_40, w100_41, w100_42, w100_43, w100_44, w100_47, w100_48, w100_51, w100_52, w100_55, w100_56, w100_57, w100_58, w100_59, w100_62, w100_63, w100_64, w100_67, w100_68, w100_69, w100_70, w100_74, w100_75, w100_76, w100_77, w100_78, w100_79, w100_82, w100_83, w100_86, w100_88, w100_89, w100_91, w100_93, w100_94, w100_97, w100_98, w100_101, w100_103, w100_104, w100_105, w100_108, w100_109, w100_112, w100_114, w100_115, w100_118, w100_120, w100_121, w100_122, w100_125, w100_126, w100_127, w100_128, w100_131, w100_133, w100_134, w100_135, w100_138, w100_139, w100_142, w100_145, w100_148, w100_151, Ko_n, Ko_v, vX_i, vX_r, vX_l, vX_j, reduceIte, c26, wyt, hcell, show ¬ (N : Int) ≤ (n : Int) by omega]
      rw [c101 ha (by omega) hq hfw, wy1]
      by_cases hz : (nr f q N).2 = -1
      · simp (disch := (first | assumption | omega | exact Nat.le_of_ble_eq_true rfl | rfl)) only [w100_0, w100_1, w100_2, w100_5, w100_6, w100_7, w100_10, w100_11, w100_13, w100_14, w100_17, w100_20, w100_21, w100_22, w100_25, w100_28, w100_29, w100_30, w100_31, w100_34, w100_35, w100_36, w100_37, w100_40, w100_41, w100_42, w100_43, w100_44, w100_47, w100_48, w100_51, w100_52, w100_55, w100_56, w100_57, w100_58, w100_59, w100_62, w100_63, w100_64, w100_67, w100_68, w100_69, w100_70, w100_74, w100_75, w100_76, w100_77, w100_78, w100_79, w100_82, w100_83, w100_86, w100_88, w100_89, w100_91, w100_93, w100_94, w100_97, w100_98, w100_101, w100_103, w100_104, w100_105, w100_108, w100_109, w100_112, w100_114, w100_115, w100_118, w100_120, w100_121, w100_122, w100_125, w100_126, w100_127, w100_128, w100_131, w100_133, w100_134, w100_135, w100_138, w100_139, w100_142, w100_145, w100_148, w100_151, Ko_n, Ko_v, vX_i, vX_r, vX_l, vX_j, reduceIte, hz, not_true]
        have := hfx hz (m + 1)
        rw [show n + (m + 1) = N by omega] at this
        rw [this]
      · have hst : djS W H (σ 1000 a) N (f, q, o, r) = (rlx W H (σ 1000 a) (nr f q N).2 f 4, (fun k => q k || decide (k = (nr f q N).2)), fu o r (nr f q N).2, r + 1) := by
          unfold djS
          rw [if_neg hz]
        rw [hst] at ih'
        simp (disch := (first | assumption | omega | exact Nat.le_of_ble_eq_true rfl | rfl)) only [w100_0, w100_1, w100_2, w100_5, w100_6, w100_7, w100_10, w100_11, w100_13, w100_14, w100_17, w100_20, w100_21, w100_22, w100_25, w100_28, w100_29, w100_30, w100_31, w100_34, w100_35, w100_36, w100_37, w100_40, w100_41, w100_42, w100_43, w100_44, w100_47, w100_48, w100_51, w100_52, w100_55, w100_56, w100_57, w100_58, w100_59, w100_62, w100_63, w100_64, w100_67, w100_68, w100_69, w100_70, w100_74, w100_75, w100_76, w100_77, w100_78, w100_79, w100_82, w100_83, w100_86, w100_88, w100_89, w100_91, w100_93, w100_94, w100_97, w100_98, w100_101, w100_103, w100_104, w100_105, w100_108, w100_109, w100_112, w100_114, w100_115, w100_118, w100_120, w100_121, w100_122, w100_125, w100_126, w100_127, w100_128, w100_131, w100_133, w100_134, w100_135, w100_138, w100_139, w100_142, w100_145, w100_148, w100_151, Ko_n, Ko_v, vX_i, vX_r, vX_l, vX_j, reduceIte, hz, not_false_eq_true, wy4, wy5, wy6, i64_toInt, bs_add, wu4, wu5, wu6]
        have := inner (Q (.inl none) (E T (wyD σ a (dj W H (σ 1000 a) N (σ 1001 a, (fun _ => false), σ 1005 a, 0) N)))) n (nr f q N).2 f (fun k => q k || decide (k = (nr f q N).2)) (fu o r (nr f q N).2) (r + 1) (by omega) (by omega) hin1 (fun l5 => ih' _ _ _) 4 0 l5 rfl
        rw [show (4 * (nr f q N).2 + ((0 : Nat) : Int)) = 4 * (nr f q N).2 by omega] at this
        exact this
  rw [n100 _ _ _ _ _ _ _ ha]
  simp (disch := (first | assumption | omega | exact Nat.le_of_ble_eq_true rfl | rfl)) only [w100_0, w100_1, w100_2, w100_5, w100_6, w100_7, w100_10, w100_11, w100_13, w100_14, w100_17, w100_20, w100_21, w100_22, w100_25, w100_28, w100_29, w100_30, w100_31, w100_34, w100_35, w100_36, w100_37, w100_40, w100_41, w100_42, w100_43, w100_44, w100_47, w100_48, w100_51, w100_52, w100_55, w100_56, w100_57, w100_58, w100_59, w100_62, w100_63, w100_64, w100_67, w100_68, w100_69, w100_70, w100_74, w100_75, w100_76, w100_77, w100_78, w100_79, w100_82, w100_83, w100_86, w100_88, w100_89, w100_91, w100_93, w100_94, w100_97, w100_98, w100_101, w100_103, w100_104, w100_105, w100_108, w100_109, w100_112, w100_114, w100_115, w100_118, w100_120, w100_121, w100_122, w100_125, w100_126, w100_127, w100_128, w100_131, w100_133, w100_134, w100_135, w100_138, w100_139, w100_142, w100_145, w100_148, w100_151, Ko_n, Ko_v, vX_i, vX_r, vX_l, vX_j, reduceIte]
  have := outer N 0 vmJ vmJ vmJ (by omega)
  unfold wyD at this ⊢
  have e0 : wyS σ a (σ 1001 a) (fun _ => false) (σ 1005 a) 0 = upA (upA σ 1004 a fun _ => (i64 0).toInt) 1006 a fun _ => 0 := by
    unfold wyS
    rw [upA_self, bs_none]
    have : upA (upA σ 1004 a fun _ => (bs fun _ => false).toInt) 1005 a (σ 1005 a) = upA σ 1004 a fun _ => (bs fun _ => false).toInt := by
      rw [upA_comm (by omega), upA_self]
    rw [this]
  rw [show dj W H (σ 1000 a) N (σ 1001 a, (fun _ => false), σ 1005 a, 0) 0 = (σ 1001 a, (fun _ => false), σ 1005 a, 0) from rfl] at this
  dsimp only at this
  rw [e0] at this
  exact this
