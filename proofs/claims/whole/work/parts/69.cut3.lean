/-! ===== Cut: turned over; the least ===== -/
/-- who is come to is come to by one who is come to; who stands in the row is come to -/
def clo (x : Ct) : Prop := (∀ j, x.1 j ≠ -1 → 0 ≤ j → j < 72 → x.1 (x.1 j) ≠ -1) ∧ ∀ i, 0 ≤ i → i < x.2.2 → x.1 (x.2.1 i) ≠ -1
theorem visC_clo {x : Ct} {nd by' : Int} (h : clo x) (hq : 0 ≤ x.2.2) (hb : x.1 by' ≠ -1) (hb0 : 0 ≤ by') : clo (visC x nd by') ∧ ∀ j, x.1 j ≠ -1 → (visC x nd by').1 j ≠ -1 := by
  unfold visC
  by_cases hc : x.1 nd = -1 ∧ x.2.2 < 72
  · rw [if_pos hc]
    have keep : ∀ j, x.1 j ≠ -1 → fu x.1 nd by' j ≠ -1 := by
      intro j hj
      by_cases hjn : j = nd
      · rw [hjn, fu_s]; omega
      · rw [fu_n hjn]; exact hj
    refine ⟨⟨fun j hj j0 j1 => ?_, fun i i0 i1 => ?_⟩, keep⟩
    · show fu x.1 nd by' (fu x.1 nd by' j) ≠ -1
      by_cases hjn : j = nd
      · rw [hjn, fu_s]; exact keep _ hb
      · have hj' : fu x.1 nd by' j ≠ -1 := hj
        rw [fu_n hjn] at hj' ⊢
        exact keep _ (h.1 j hj' j0 j1)
    · have i1' : i < x.2.2 + 1 := i1
      show fu x.1 nd by' (fu x.2.1 x.2.2 nd i) ≠ -1
      by_cases hi : i = x.2.2
      · rw [hi, fu_s, fu_s]; omega
      · rw [fu_n hi]; exact keep _ (h.2 i i0 (by omega))
  · rw [if_neg hc]; exact ⟨h, fun j hj => hj⟩
theorem lvC_clo {W H nd : Int} {pq op : Int → Bool} {al : Int → Int} {x : Ct} (h : wh2 W H) (hx : ctIn (W * H) x) (hc : clo x) (hn : x.1 nd ≠ -1) (n0 : 0 ≤ nd) (n1 : nd < 2 * (W * H)) (j : Nat) : clo (lvC W H pq op al nd x j) ∧ (lvC W H pq op al nd x j).1 nd ≠ -1 := by
  induction j with
  | zero =>
    simp only [lvC]
    cases pq (nd / 2) with
    | true =>
      have := visC_clo (nd := 2 * (nd / 2)) hc hx.2.1 hn n0
      exact ⟨this.1, this.2 nd hn⟩
    | false => exact ⟨hc, hn⟩
  | succ j ih =>
    have hin := lvC_in (pq := pq) (op := op) (al := al) h hx n0 n1 j
    simp only [lvC]
    split
    · have := visC_clo (nd := 2 * nbC W H (nd / 2) j) ih.1 hin.2.1 ih.2 n0
      exact ⟨this.1, this.2 nd ih.2⟩
    · exact ih
theorem enC_clo {W H nd : Int} {pq : Int → Bool} {al : Int → Int} {x : Ct} (h : wh2 W H) (hx : ctIn (W * H) x) (hc : clo x) (hn : x.1 nd ≠ -1) (n0 : 0 ≤ nd) (n1 : nd < 2 * (W * H)) (j : Nat) : clo (enC W H pq al nd x j) ∧ (enC W H pq al nd x j).1 nd ≠ -1 := by
  induction j with
  | zero =>
    simp only [enC]
    cases pq (nd / 2) with
    | true => exact ⟨hc, hn⟩
    | false =>
      have := visC_clo (nd := 2 * (nd / 2) + 1) hc hx.2.1 hn n0
      exact ⟨this.1, this.2 nd hn⟩
  | succ j ih =>
    have hin := enC_in (pq := pq) (al := al) h hx n0 n1 j
    simp only [enC]
    split
    · have := visC_clo (nd := 2 * nbC W H (nd / 2) j + 1) ih.1 hin.2.1 ih.2 n0
      exact ⟨this.1, this.2 nd ih.2⟩
    · exact ih
theorem fn0_clo {fr : Int} {g f : Int → Int} (f0 : 0 ≤ fr) (f1 : fr < 36) : clo (fn0 fr g f) := by
  have e1 : (fu (fil g 72 (-1)) (2 * fr) (2 * fr + 1)) (2 * fr + 1) = -1 := by
    rw [fu_n (by omega)]
    unfold fil
    rw [if_pos (by omega)]
  unfold fn0 visC
  rw [if_pos ⟨e1, by show (0 : Int) < 72; omega⟩]
  have es : fu (fu (fil g 72 (-1)) (2 * fr) (2 * fr + 1)) (2 * fr + 1) (2 * fr + 1) (2 * fr + 1) ≠ -1 := by rw [fu_s]; omega
  refine ⟨fun j hj j0 j1 => ?_, fun i i0 i1 => ?_⟩
  · have hj' : fu (fu (fil g 72 (-1)) (2 * fr) (2 * fr + 1)) (2 * fr + 1) (2 * fr + 1) j ≠ -1 := hj
    show fu (fu (fil g 72 (-1)) (2 * fr) (2 * fr + 1)) (2 * fr + 1) (2 * fr + 1) (fu (fu (fil g 72 (-1)) (2 * fr) (2 * fr + 1)) (2 * fr + 1) (2 * fr + 1) j) ≠ -1
    by_cases h1 : j = 2 * fr + 1
    · rw [h1, fu_s]; exact es
    · rw [fu_n h1] at hj' ⊢
      by_cases h2 : j = 2 * fr
      · rw [h2, fu_s]; exact es
      · rw [fu_n h2] at hj'
        exfalso
        apply hj'
        unfold fil
        rw [if_pos ⟨j0, j1⟩]
  · have i1' : i < (0 : Int) + 1 := i1
    have : i = 0 := by omega
    show fu (fu (fil g 72 (-1)) (2 * fr) (2 * fr + 1)) (2 * fr + 1) (2 * fr + 1) (fu f 0 (2 * fr + 1) i) ≠ -1
    rw [this, fu_s]
    exact es
theorem fnI_clo {W H to : Int} {pq op : Int → Bool} {al : Int → Int} {x : Ct} (h : wh2 W H) (hx : ctIn (W * H) x) (hc : clo x) (n : Nat) : clo (fnI W H pq op al to x n) := by
  induction n with
  | zero => exact hc
  | succ n ih =>
    have hin := fnI_in (pq := pq) (op := op) (al := al) (to := to) h hx n
    simp only [fnI]
    unfold fnS
    by_cases hq : (fnI W H pq op al to x n).2.2 ≤ n ∨ (fnI W H pq op al to x n).1 (2 * to) ≠ -1
    · rw [if_pos hq]; exact ih
    · rw [if_neg hq]
      have hqn := hin.2.2.2 n (by omega) (by omega)
      have hv := ih.2 n (by omega) (by omega)
      by_cases h1 : (fnI W H pq op al to x n).2.1 n % 2 = 1
      · rw [if_pos h1]; exact (lvC_clo h hin ih hv hqn.1 hqn.2 4).1
      · rw [if_neg h1]; exact (enC_clo h hin ih hv hqn.1 hqn.2 4).1
/-- along what was found: the node, the cells passed, the sides taken -/
abbrev Tv : Type := Int × (Int → Bool) × (Int → Int)
def tvS (W H : Int) (src : Int → Int) (fr : Int) (x : Tv) : Tv :=
  if x.1 = 2 * fr + 1 then x
  else if src x.1 / 2 = x.1 / 2 then (src x.1, (fun k => xor (x.2.1 k) (decide (k = src x.1 / 2))), x.2.2)
  else if src x.1 % 2 = 1 then (src x.1, x.2.1, if sdT W H (src x.1 / 2) (x.1 / 2) = -1 then x.2.2 else fu x.2.2 (sdT W H (src x.1 / 2) (x.1 / 2)) 1)
  else (src x.1, x.2.1, if sdT W H (x.1 / 2) (src x.1 / 2) = -1 then x.2.2 else fu x.2.2 (sdT W H (x.1 / 2) (src x.1 / 2)) 0)
def tvI (W H : Int) (src : Int → Int) (fr : Int) (x : Tv) : Nat → Tv
  | 0 => x
  | n + 1 => tvS W H src fr (tvI W H src fr x n)
theorem tvI_fix {W H fr : Int} {src : Int → Int} {x : Tv} {n : Nat} (hc : (tvI W H src fr x n).1 = 2 * fr + 1) (m : Nat) : tvI W H src fr x (n + m) = tvI W H src fr x n := by
  induction m with
  | zero => rfl
  | succ m ih =>
    show tvS W H src fr (tvI W H src fr x (n + m)) = _
    rw [ih]
    unfold tvS
    rw [if_pos hc]
theorem tvI_in {W H fr : Int} {src : Int → Int} {x : Tv} (h : wh2 W H) (hs : ∀ j, 0 ≤ j → j < 72 → -1 ≤ src j ∧ src j < 2 * (W * H)) (hcl : ∀ j, src j ≠ -1 → 0 ≤ j → j < 72 → src (src j) ≠ -1) (x0 : 0 ≤ x.1) (x1 : x.1 < 2 * (W * H)) (hx : src x.1 ≠ -1) (ha : alIn x.2.2) (n : Nat) : 0 ≤ (tvI W H src fr x n).1 ∧ (tvI W H src fr x n).1 < 2 * (W * H) ∧ src (tvI W H src fr x n).1 ≠ -1 ∧ alIn (tvI W H src fr x n).2.2 := by
  have hm := wh_mul h
  induction n with
  | zero => exact ⟨x0, x1, hx, ha⟩
  | succ n ih =>
    obtain ⟨i1, i2, i3, i4⟩ := ih
    simp only [tvI]
    unfold tvS
    generalize tvI W H src fr x n = y at *
    have hb := hs y.1 i1 (by omega)
    have hc := hcl y.1 i3 i1 (by omega)
    by_cases c1 : y.1 = 2 * fr + 1
    · rw [if_pos c1]; exact ⟨i1, i2, i3, i4⟩
    rw [if_neg c1]
    by_cases c2 : src y.1 / 2 = y.1 / 2
    · rw [if_pos c2]; exact ⟨by show 0 ≤ src y.1; omega, hb.2, hc, i4⟩
    rw [if_neg c2]
    have hfu : ∀ s v : Int, (v = 0 ∨ v = 1) → alIn (if s = -1 then y.2.2 else fu y.2.2 s v) := by
      intro s v hv
      by_cases hs2 : s = -1
      · rw [if_pos hs2]; exact i4
      · rw [if_neg hs2]
        intro j j0 j1
        by_cases hj : j = s
        · rw [hj, fu_s]; exact hv
        · rw [fu_n hj]; exact i4 j j0 j1
    by_cases c3 : src y.1 % 2 = 1
    · rw [if_pos c3]; exact ⟨by show 0 ≤ src y.1; omega, hb.2, hc, hfu _ _ (Or.inr rfl)⟩
    · rw [if_neg c3]; exact ⟨by show 0 ≤ src y.1; omega, hb.2, hc, hfu _ _ (Or.inl rfl)⟩
def toS (σ : St) (q : Int → Bool) (al : Int → Int) : St := upA (upA σ 0 151 fun _ => (bs q).toInt) 1 151 al
theorem to0 {σ : St} {q : Int → Bool} {al : Int → Int} : toS σ q al 0 151 = fun _ => (bs q).toInt := by unfold toS; rw [upA_t (by omega), upA_s]
theorem to1 {σ : St} {q : Int → Bool} {al : Int → Int} : toS σ q al 1 151 = al := by unfold toS; rw [upA_s]
theorem tot {σ : St} {q : Int → Bool} {al : Int → Int} {t o : Nat} (h0 : t ≠ 0) (h1 : t ≠ 1) : toS σ q al t o = σ t o := by unfold toS; rw [upA_t h1, upA_t h0]
theorem tu0 {σ : St} {q q' : Int → Bool} {al : Int → Int} : upA (toS σ q al) 0 151 (fun _ => (bs q').toInt) = toS σ q' al := by unfold toS; rw [upA_comm (t := 1) (t' := 0) (by omega), upA_upA]
theorem tu1 {σ : St} {q : Int → Bool} {al al' : Int → Int} : upA (toS σ q al) 1 151 al' = toS σ q al' := by unfold toS; rw [upA_upA]
theorem c7 {d : Nat} {k W H fr to : Int} {p : Nat} {q : Int → Bool} {al : Int → Int} {T : Tt} {σ : St} {Q : vmO → vmH → Prop} (hp : ob 4 p) (hg : geo σ p W H) (h : wh2 W H) (f0 : 0 ≤ fr) (f1 : fr < W * H) (t0 : 0 ≤ to) (t1 : to < W * H) (hs : ∀ j, 0 ≤ j → j < 72 → -1 ≤ σ 3 151 j ∧ σ 3 151 j < 2 * (W * H)) (hcl : ∀ j, σ 3 151 j ≠ -1 → 0 ≤ j → j < 72 → σ 3 151 (σ 3 151 j) ≠ -1) (hto : σ 3 151 (2 * to) ≠ -1) (ha : alIn al) : Ca (d + 1) k 7 [.ref 151, .ref p, .int (i32 fr), .int (i32 to)] (E T (toS σ q al)) Q = Q (.inl none) (E T (toS σ (tvI W H (σ 3 151) fr (2 * to, q, al) 72).2.1 (tvI W H (σ 3 151) fr (2 * to, q, al) 72).2.2)) := by
  have hp3 := ob_lt hp
  have hr := ob_cu
  have hm := wh_mul h
  have hgx : ∀ q al, geo (toS σ q al) p W H := fun q al => geo_t hg (tot (by omega) (by omega)) (tot (by omega) (by omega)) (tot (by omega) (by omega)) (tot (by omega) (by omega)) (tot (by omega) (by omega)) (tot (by omega) (by omega))
  have loop : ∀ (m n : Nat) (l6 l7 l8 l9 l10 : Value), n + m = 72 → Wp (d + 1) M_X0_turnOver 8 [.ref 151, .ref p, .int (i32 fr), .int (i32 to), .int (i32 (tvI W H (σ 3 151) fr (2 * to, q, al) n).1), .int (i32 n), l6, l7, l8, l9, l10] [] (E T (toS σ (tvI W H (σ 3 151) fr (2 * to, q, al) n).2.1 (tvI W H (σ 3 151) fr (2 * to, q, al) n).2.2)) Q = Q (.inl none) (E T (toS σ (tvI W H (σ 3 151) fr (2 * to, q, al) 72).2.1 (tvI W H (σ 3 151) fr (2 * to, q, al) 72).2.2)) := by
    intro m
    induction m with
    | zero =>
      intro n l6 l7 l8 l9 l10 hn
      have hn : n = 72 := by omega
      subst hn
      rw [w7_8]
      simp (disch := (first | assumption | omega | exact Nat.le_of_ble_eq_true rfl | rfl)) only [w7_0, w7_1, w7_2, w7_3, w7_5, w7_6, w7_10, w7_11, w7_14, w7_15, w7_18, w7_20, w7_21, w7_22, w7_23, w7_24, w7_25, w7_28, w7_29, w7_32, w7_34, w7_35, w7_37, w7_39, w7_40, w7_43, w7_44, w7_46, w7_47, w7_48, w7_50, w7_52, w7_53, w7_54, w7_56, w7_58, w7_60, w7_63, w7_64, w7_65, w7_68, w7_69, w7_71, w7_72, w7_73, w7_76, w7_79, w7_81, w7_82, w7_83, w7_84, w7_87, w7_88, w7_91, w7_92, w7_94, w7_96, w7_99, w7_100, w7_102, w7_104, w7_107, w7_110, w7_111, w7_113, w7_115, w7_118, w7_120, w7_122, w7_123, w7_126, w7_127, w7_130, w7_132, w7_134, w7_137, w7_138, w7_141, w7_142, w7_143, w7_145, w7_147, w7_150, w7_153, Ko_n, Ko_v, vX_i, vX_r, vX_l, vX_j, reduceIte, Int.le_refl]
    | succ m ih =>
      intro n l6 l7 l8 l9 l10 hn
      have hin := tvI_in (fr := fr) (x := (2 * to, q, al)) h hs hcl (by show 0 ≤ 2 * to; omega) (by show 2 * to < 2 * (W * H); omega) hto ha n
      have ih' := fun l6 l7 l8 l9 l10 => ih (n + 1) l6 l7 l8 l9 l10 (by omega)
      have hfx := tvI_fix (W := W) (H := H) (fr := fr) (src := σ 3 151) (x := (2 * to, q, al)) (n := n)
      rw [show tvI W H (σ 3 151) fr (2 * to, q, al) (n + 1) = tvS W H (σ 3 151) fr (tvI W H (σ 3 151) fr (2 * to, q, al) n) from rfl] at ih'
      unfold tvS at ih'
      generalize tvI W H (σ 3 151) fr (2 * to, q, al) n = y at *
      obtain ⟨i1, i2, i3, i4⟩ := hin
      have hb := hs y.1 i1 (by omega)
      have e0 := Int.emod_nonneg (σ 3 151 y.1) (show (2 : Int) ≠ 0 by omega)
      have e2 := Int.emod_lt_of_pos (σ 3 151 y.1) (show (0 : Int) < 2 by omega)
      have hny : ¬ σ 3 151 y.1 = -1 := i3
      rw [w7_8]
      by_cases c1 : y.1 = 2 * fr + 1
      · have := hfx c1 (m + 1)
        rw [show n + (m + 1) = 72 by omega] at this
        rw [this]
        simp (disch := (first | assumption | omega | exact Nat.le_of_ble_eq_true rfl | rfl)) only [w7_0, w7_1, w7_2, w7_3, w7_5, w7_6, w7_10, w7_11, w7_14, w7_15, w7_18, w7_20, w7_21, w7_22, w7_23, w7_24, w7_25, w7_28, w7_29, w7_32, w7_34, w7_35, w7_37, w7_39, w7_40, w7_43, w7_44, w7_46, w7_47, w7_48, w7_50, w7_52, w7_53, w7_54, w7_56, w7_58, w7_60, w7_63, w7_64, w7_65, w7_68, w7_69, w7_71, w7_72, w7_73, w7_76, w7_79, w7_81, w7_82, w7_83, w7_84, w7_87, w7_88, w7_91, w7_92, w7_94, w7_96, w7_99, w7_100, w7_102, w7_104, w7_107, w7_110, w7_111, w7_113, w7_115, w7_118, w7_120, w7_122, w7_123, w7_126, w7_127, w7_130, w7_132, w7_134, w7_137, w7_138, w7_141, w7_142, w7_143, w7_145, w7_147, w7_150, w7_153, Ko_n, Ko_v, vX_i, vX_r, vX_l, vX_j, reduceIte, show ¬ ((72 : Nat) : Int) ≤ (n : Int) by omega, c1]
      rw [if_neg c1] at ih'
      by_cases c2 : σ 3 151 y.1 / 2 = y.1 / 2
      · rw [if_pos c2] at ih'
        simp (disch := (first | assumption | omega | exact Nat.le_of_ble_eq_true rfl | rfl)) only [w7_0, w7_1, w7_2, w7_3, w7_5, w7_6, w7_10, w7_11, w7_14, w7_15, w7_18, w7_20, w7_21, w7_22, w7_23, w7_24, w7_25, w7_28, w7_29, w7_32, w7_34, w7_35, w7_37, w7_39, w7_40, w7_43, w7_44, w7_46, w7_47, w7_48, w7_50, w7_52, w7_53, w7_54, w7_56, w7_58, w7_60, w7_63, w7_64, w7_65, w7_68, w7_69, w7_71, w7_72, w7_73, w7_76, w7_79, w7_81, w7_82, w7_83, w7_84, w7_87, w7_88, w7_91, w7_92, w7_94, w7_96, w7_99, w7_100, w7_102, w7_104, w7_107, w7_110, w7_111, w7_113, w7_115, w7_118, w7_120, w7_122, w7_123, w7_126, w7_127, w7_130, w7_132, w7_134, w7_137, w7_138, w7_141, w7_142, w7_143, w7_145, w7_147, w7_150, w7_153, Ko_n, Ko_v, vX_i, vX_r, vX_l, vX_j, reduceIte, show ¬ ((72 : Nat) : Int) ≤ (n : Int) by omega, c1, tot, hny, not_false_eq_true, show (σ 3 151 y.1 / 2 = y.1 / 2) = True from eq_true c2, not_true, to0, i64_toInt, bs_one, bs_xor, tu0]
        exact ih' _ _ _ _ _
      rw [if_neg c2] at ih'
      by_cases c3 : σ 3 151 y.1 % 2 = 1
      · rw [if_pos c3] at ih'
        have hsd := sdT_in (c := σ 3 151 y.1 / 2) (n := y.1 / 2) h (by omega) (by omega)
        simp (disch := (first | assumption | omega | exact Nat.le_of_ble_eq_true rfl | rfl)) only [w7_0, w7_1, w7_2, w7_3, w7_5, w7_6, w7_10, w7_11, w7_14, w7_15, w7_18, w7_20, w7_21, w7_22, w7_23, w7_24, w7_25, w7_28, w7_29, w7_32, w7_34, w7_35, w7_37, w7_39, w7_40, w7_43, w7_44, w7_46, w7_47, w7_48, w7_50, w7_52, w7_53, w7_54, w7_56, w7_58, w7_60, w7_63, w7_64, w7_65, w7_68, w7_69, w7_71, w7_72, w7_73, w7_76, w7_79, w7_81, w7_82, w7_83, w7_84, w7_87, w7_88, w7_91, w7_92, w7_94, w7_96, w7_99, w7_100, w7_102, w7_104, w7_107, w7_110, w7_111, w7_113, w7_115, w7_118, w7_120, w7_122, w7_123, w7_126, w7_127, w7_130, w7_132, w7_134, w7_137, w7_138, w7_141, w7_142, w7_143, w7_145, w7_147, w7_150, w7_153, Ko_n, Ko_v, vX_i, vX_r, vX_l, vX_j, reduceIte, show ¬ ((72 : Nat) : Int) ≤ (n : Int) by omega, c1, tot, hny, c2, not_false_eq_true, c3, not_true, Int.reduceEq]
        rw [c6 (by omega) hp (hgx _ _) h (by omega) (by omega) (by omega) (by omega)]
        generalize sdT W H (σ 3 151 y.1 / 2) (y.1 / 2) = sd at *
        rcases hsd with hsd | ⟨hsd0, hsd1, -⟩
        · rw [if_pos hsd] at ih'
          simp (disch := (first | assumption | omega | exact Nat.le_of_ble_eq_true rfl | rfl)) only [w7_0, w7_1, w7_2, w7_3, w7_5, w7_6, w7_10, w7_11, w7_14, w7_15, w7_18, w7_20, w7_21, w7_22, w7_23, w7_24, w7_25, w7_28, w7_29, w7_32, w7_34, w7_35, w7_37, w7_39, w7_40, w7_43, w7_44, w7_46, w7_47, w7_48, w7_50, w7_52, w7_53, w7_54, w7_56, w7_58, w7_60, w7_63, w7_64, w7_65, w7_68, w7_69, w7_71, w7_72, w7_73, w7_76, w7_79, w7_81, w7_82, w7_83, w7_84, w7_87, w7_88, w7_91, w7_92, w7_94, w7_96, w7_99, w7_100, w7_102, w7_104, w7_107, w7_110, w7_111, w7_113, w7_115, w7_118, w7_120, w7_122, w7_123, w7_126, w7_127, w7_130, w7_132, w7_134, w7_137, w7_138, w7_141, w7_142, w7_143, w7_145, w7_147, w7_150, w7_153, Ko_n, Ko_v, vX_i, vX_r, vX_l, vX_j, reduceIte, hsd, Int.reduceNeg]
          exact ih' _ _ _ _ _
        · rw [if_neg (by omega)] at ih'
          simp (disch := (first | assumption | omega | exact Nat.le_of_ble_eq_true rfl | rfl)) only [w7_0, w7_1, w7_2, w7_3, w7_5, w7_6, w7_10, w7_11, w7_14, w7_15, w7_18, w7_20, w7_21, w7_22, w7_23, w7_24, w7_25, w7_28, w7_29, w7_32, w7_34, w7_35, w7_37, w7_39, w7_40, w7_43, w7_44, w7_46, w7_47, w7_48, w7_50, w7_52, w7_53, w7_54, w7_56, w7_58, w7_60, w7_63, w7_64, w7_65, w7_68, w7_69, w7_71, w7_72, w7_73, w7_76, w7_79, w7_81, w7_82, w7_83, w7_84, w7_87, w7_88, w7_91, w7_92, w7_94, w7_96, w7_99, w7_100, w7_102, w7_104, w7_107, w7_110, w7_111, w7_113, w7_115, w7_118, w7_120, w7_122, w7_123, w7_126, w7_127, w7_130, w7_132, w7_134, w7_137, w7_138, w7_141, w7_142, w7_143, w7_145, w7_147, w7_150, w7_153, Ko_n, Ko_v, vX_i, vX_r, vX_l, vX_j, reduceIte, show ¬ sd = -1 by omega, Int.reduceEq, to1, tu1]
          exact ih' _ _ _ _ _
      · rw [if_neg c3] at ih'
        have hsd := sdT_in (c := y.1 / 2) (n := σ 3 151 y.1 / 2) h (by omega) (by omega)
        simp (disch := (first | assumption | omega | exact Nat.le_of_ble_eq_true rfl | rfl)) only [w7_0, w7_1, w7_2, w7_3, w7_5, w7_6, w7_10, w7_11, w7_14, w7_15, w7_18, w7_20, w7_21, w7_22, w7_23, w7_24, w7_25, w7_28, w7_29, w7_32, w7_34, w7_35, w7_37, w7_39, w7_40, w7_43, w7_44, w7_46, w7_47, w7_48, w7_50, w7_52, w7_53, w7_54, w7_56, w7_58, w7_60, w7_63, w7_64, w7_65, w7_68, w7_69, w7_71, w7_72, w7_73, w7_76, w7_79, w7_81, w7_82, w7_83, w7_84, w7_87, w7_88, w7_91, w7_92, w7_94, w7_96, w7_99, w7_100, w7_102, w7_104, w7_107, w7_110, w7_111, w7_113, w7_115, w7_118, w7_120, w7_122, w7_123, w7_126, w7_127, w7_130, w7_132, w7_134, w7_137, w7_138, w7_141, w7_142, w7_143, w7_145, w7_147, w7_150, w7_153, Ko_n, Ko_v, vX_i, vX_r, vX_l, vX_j, reduceIte, show ¬ ((72 : Nat) : Int) ≤ (n : Int) by omega, c1, tot, hny, c2, not_false_eq_true, c3, Int.reduceEq]
        rw [c6 (by omega) hp (hgx _ _) h (by omega) (by omega) (by omega) (by omega)]
        generalize sdT W H (y.1 / 2) (σ 3 151 y.1 / 2) = sd at *
        rcases hsd with hsd | ⟨hsd0, hsd1, -⟩
        · rw [if_pos hsd] at ih'
          simp (disch := (first | assumption | omega | exact Nat.le_of_ble_eq_true rfl | rfl)) only [w7_0, w7_1, w7_2, w7_3, w7_5, w7_6, w7_10, w7_11, w7_14, w7_15, w7_18, w7_20, w7_21, w7_22, w7_23, w7_24, w7_25, w7_28, w7_29, w7_32, w7_34, w7_35, w7_37, w7_39, w7_40, w7_43, w7_44, w7_46, w7_47, w7_48, w7_50, w7_52, w7_53, w7_54, w7_56, w7_58, w7_60, w7_63, w7_64, w7_65, w7_68, w7_69, w7_71, w7_72, w7_73, w7_76, w7_79, w7_81, w7_82, w7_83, w7_84, w7_87, w7_88, w7_91, w7_92, w7_94, w7_96, w7_99, w7_100, w7_102, w7_104, w7_107, w7_110, w7_111, w7_113, w7_115, w7_118, w7_120, w7_122, w7_123, w7_126, w7_127, w7_130, w7_132, w7_134, w7_137, w7_138, w7_141, w7_142, w7_143, w7_145, w7_147, w7_150, w7_153, Ko_n, Ko_v, vX_i, vX_r, vX_l, vX_j, reduceIte, hsd, Int.reduceNeg]
          exact ih' _ _ _ _ _
        · rw [if_neg (by omega)] at ih'
          simp (disch := (first | assumption | omega | exact Nat.le_of_ble_eq_true rfl | rfl)) only [w7_0, w7_1, w7_2, w7_3, w7_5, w7_6, w7_10, w7_11, w7_14, w7_15, w7_18, w7_20, w7_21, w7_22, w7_23, w7_24, w7_25, w7_28, w7_29, w7_32, w7_34, w7_35, w7_37, w7_39, w7_40, w7_43, w7_44, w7_46, w7_47, w7_48, w7_50, w7_52, w7_53, w7_54, w7_56, w7_58, w7_60, w7_63, w7_64, w7_65, w7_68, w7_69, w7_71, w7_72, w7_73, w7_76, w7_79, w7_81, w7_82, w7_83, w7_84, w7_87, w7_88, w7_91, w7_92, w7_94, w7_96, w7_99, w7_100, w7_102, w7_104, w7_107, w7_110, w7_111, w7_113, w7_115, w7_118, w7_120, w7_122, w7_123, w7_126, w7_127, w7_130, w7_132, w7_134, w7_137, w7_138, w7_141, w7_142, w7_143, w7_145, w7_147, w7_150, w7_153, Ko_n, Ko_v, vX_i, vX_r, vX_l, vX_j, reduceIte, show ¬ sd = -1 by omega, Int.reduceEq, to1, tu1]
          exact ih' _ _ _ _ _
  rw [n7 _ _ _ _ _ _ _ _ _ hr]
  simp (disch := (first | assumption | omega | exact Nat.le_of_ble_eq_true rfl | rfl)) only [w7_0, w7_1, w7_2, w7_3, w7_5, w7_6, w7_10, w7_11, w7_14, w7_15, w7_18, w7_20, w7_21, w7_22, w7_23, w7_24, w7_25, w7_28, w7_29, w7_32, w7_34, w7_35, w7_37, w7_39, w7_40, w7_43, w7_44, w7_46, w7_47, w7_48, w7_50, w7_52, w7_53, w7_54, w7_56, w7_58, w7_60, w7_63, w7_64, w7_65, w7_68, w7_69, w7_71, w7_72, w7_73, w7_76, w7_79, w7_81, w7_82, w7_83, w7_84, w7_87, w7_88, w7_91, w7_92, w7_94, w7_96, w7_99, w7_100, w7_102, w7_104, w7_107, w7_110, w7_111, w7_113, w7_115, w7_118, w7_120, w7_122, w7_123, w7_126, w7_127, w7_130, w7_132, w7_134, w7_137, w7_138, w7_141, w7_142, w7_143, w7_145, w7_147, w7_150, w7_153, Ko_n, Ko_v, vX_i, vX_r, vX_l, vX_j, reduceIte]
  exact loop 72 0 _ _ _ _ _ (by omega)
