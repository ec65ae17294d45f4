/-! ===== Strolls: counted ===== -/
def psI (W H : Int) (c : Int → Int) (a z : Int) (t : Nat) : Nat → Int → Bool
  | 0 => fun _ => false
  | n + 1 => fun k => psI W H c a z t n k || (th W H c a n k && tc W H c z (t - n) k)
theorem c89 {d t : Nat} {k W H a z : Int} {c : Int → Int} {T : Tt} {σ : St} {Q : vmO → vmH → Prop} (ht : t ≤ 30) (h7 : σ 907 155 0 = t) (hTH : thU W H c a t (σ 901 155)) (hTC : tcU W H c z t (σ 902 155)) : Ca d k 89 [.ref 155] (E T σ) Q = Q (.inl (some (.long (bs (psI W H c a z t (t + 1)))))) (E T σ) := by
  have hr := ob_sk
  have loop : ∀ (m n : Nat), n + m = t + 1 → Wp d M_X9_passed 4 [.ref 155, .long (bs (psI W H c a z t n)), vmJ, .int (i32 n)] [] (E T σ) Q = Q (.inl (some (.long (bs (psI W H c a z t (t + 1)))))) (E T σ) := by
    intro m
    induction m with
    | zero =>
      intro n hn
      have hn : n = t + 1 := by omega
      subst hn
      rw [w89_4]
      simp (disch := (first | assumption | omega | exact Nat.le_of_ble_eq_true rfl | rfl)) only [w89_0, w89_1, w89_2, w89_3, w89_5, w89_6, w89_9, w89_12, w89_13, w89_14, w89_17, w89_18, w89_19, w89_20, w89_23, w89_24, w89_27, w89_28, w89_29, w89_30, w89_31, w89_32, w89_33, w89_36, w89_39, w89_40, Ko_n, Ko_v, vX_i, vX_r, vX_l, vX_j, reduceIte, h7, show (t : Int) < ((t + 1 : Nat) : Int) by omega]
    | succ m ih =>
      intro n hn
      have ih' := ih (n + 1) (by omega)
      have e1 := hTH n (by omega)
      have e2 := hTC (t - n) (by omega)
      rw [show ((t - n : Nat) : Int) = (t : Int) - n by omega] at e2
      rw [w89_4]
      simp (disch := (first | assumption | omega | exact Nat.le_of_ble_eq_true rfl | rfl)) only [w89_0, w89_1, w89_2, w89_3, w89_5, w89_6, w89_9, w89_12, w89_13, w89_14, w89_17, w89_18, w89_19, w89_20, w89_23, w89_24, w89_27, w89_28, w89_29, w89_30, w89_31, w89_32, w89_33, w89_36, w89_39, w89_40, Ko_n, Ko_v, vX_i, vX_r, vX_l, vX_j, reduceIte, h7, show ¬ (t : Int) < (n : Int) by omega, e1, e2, bs_and, bs_or]
      exact ih'
  rw [n89 _ _ _ _ _ _ hr]
  simp (disch := (first | assumption | omega | exact Nat.le_of_ble_eq_true rfl | rfl)) only [w89_0, w89_1, w89_2, w89_3, w89_5, w89_6, w89_9, w89_12, w89_13, w89_14, w89_17, w89_18, w89_19, w89_20, w89_23, w89_24, w89_27, w89_28, w89_29, w89_30, w89_31, w89_32, w89_33, w89_36, w89_39, w89_40, Ko_n, Ko_v, vX_i, vX_r, vX_l, vX_j, reduceIte, bs_none]
  exact loop (t + 1) 0 (by omega)
def mbI (W H : Int) (M : Int → Int) (b z : Int) : Nat → Int64
  | 0 => i64 0
  | j + 1 => if nbC W H z j = -1 then mbI W H M b z j else mbI W H M b z j + i64 (M (36 * b + nbC W H z j))
def mbV (W H : Int) (c M : Int → Int) (s z : Int) : Int64 := if s = 0 then i64 1 else if 1 ≤ c z ∧ c z ≤ s then mbI W H M (s - c z) z 4 else i64 0
theorem c91 {d : Nat} {k W H s z : Int} {p : Nat} {T : Tt} {σ : St} {Q : vmO → vmH → Prop} (hp : ob 4 p) (hg : geo σ p W H) (h : wh2 W H) (hcs : csIn (σ 1000 160) (W * H)) (s0 : 0 ≤ s) (s1 : s ≤ 30) (z0 : 0 ≤ z) (z1 : z < W * H) : Ca d k 91 [.ref 155, .ref p, .int (i32 s), .int (i32 z)] (E T σ) Q = Q (.inl (some (.long (mbV W H (σ 1000 160) (σ 903 155) s z)))) (E T σ) := by
  have hp3 := ob_lt hp
  have hr := ob_sk
  have hrw := ob_sw
  have hm := wh_mul h
  obtain ⟨g1, g2, g3, g4, g5, g6⟩ := hg
  have hcz := hcs z z0 z1
  rw [n91 _ _ _ _ _ _ _ _ _ hr]
  unfold mbV
  by_cases hs : s = 0
  · simp (disch := (first | assumption | omega | exact Nat.le_of_ble_eq_true rfl | rfl)) only [w91_0, w91_1, w91_4, w91_5, w91_6, w91_7, w91_8, w91_11, w91_14, w91_15, w91_16, w91_17, w91_19, w91_21, w91_24, w91_26, w91_27, w91_30, w91_31, w91_32, w91_33, w91_35, w91_36, w91_37, w91_38, w91_42, w91_43, w91_44, w91_45, w91_46, w91_47, w91_50, w91_51, w91_54, w91_56, w91_57, w91_59, w91_61, w91_62, w91_65, w91_67, w91_68, w91_71, w91_73, w91_75, w91_76, w91_78, w91_79, w91_80, w91_81, w91_83, w91_86, w91_89, w91_91, Ko_n, Ko_v, vX_i, vX_r, vX_l, vX_j, reduceIte, Nat.reduceAdd, hs, not_true]
  by_cases hc : 1 ≤ σ 1000 160 z ∧ σ 1000 160 z ≤ s
  · have loop : ∀ (m j : Nat) (l8 : Value), j + m = 4 → Wp d M_X9_manyBehind 40 [.ref 155, .ref p, .int (i32 s), .int (i32 z), .int (i32 (s - σ 1000 160 z)), .long (mbI W H (σ 903 155) (s - σ 1000 160 z) z j), vmJ, .int (i32 (4 * z + j)), l8] [] (E T σ) Q = Q (.inl (some (.long (mbI W H (σ 903 155) (s - σ 1000 160 z) z 4)))) (E T σ) := by
      intro m
      induction m with
      | zero =>
        intro j l8 hj
        have hj : j = 4 := by omega
        subst hj
        rw [w91_40]
        simp (disch := (first | assumption | omega | exact Nat.le_of_ble_eq_true rfl | rfl)) only [w91_0, w91_1, w91_4, w91_5, w91_6, w91_7, w91_8, w91_11, w91_14, w91_15, w91_16, w91_17, w91_19, w91_21, w91_24, w91_26, w91_27, w91_30, w91_31, w91_32, w91_33, w91_35, w91_36, w91_37, w91_38, w91_42, w91_43, w91_44, w91_45, w91_46, w91_47, w91_50, w91_51, w91_54, w91_56, w91_57, w91_59, w91_61, w91_62, w91_65, w91_67, w91_68, w91_71, w91_73, w91_75, w91_76, w91_78, w91_79, w91_80, w91_81, w91_83, w91_86, w91_89, w91_91, Ko_n, Ko_v, vX_i, vX_r, vX_l, vX_j, reduceIte, Nat.reduceAdd, show (4 * z + ((4 : Nat) : Int)) = 4 * z + 4 by omega, Int.le_refl]
      | succ m ih =>
        intro j l8 hj
        have hb := g6 z j z0 z1 (by omega) (by omega)
        have e1 : (4 * z + (j : Int) + 1) = 4 * z + ((j + 1 : Nat) : Int) := by omega
        have ih' := fun l => ih (j + 1) l (by omega)
        simp only [mbI] at ih'
        rw [w91_40]
        by_cases hn : nbC W H z j = -1
        · rw [if_pos hn] at ih'
          simp (disch := (first | assumption | omega | exact Nat.le_of_ble_eq_true rfl | rfl)) only [w91_0, w91_1, w91_4, w91_5, w91_6, w91_7, w91_8, w91_11, w91_14, w91_15, w91_16, w91_17, w91_19, w91_21, w91_24, w91_26, w91_27, w91_30, w91_31, w91_32, w91_33, w91_35, w91_36, w91_37, w91_38, w91_42, w91_43, w91_44, w91_45, w91_46, w91_47, w91_50, w91_51, w91_54, w91_56, w91_57, w91_59, w91_61, w91_62, w91_65, w91_67, w91_68, w91_71, w91_73, w91_75, w91_76, w91_78, w91_79, w91_80, w91_81, w91_83, w91_86, w91_89, w91_91, Ko_n, Ko_v, vX_i, vX_r, vX_l, vX_j, reduceIte, Nat.reduceAdd, show ¬ (4 * z + 4 ≤ 4 * z + (j : Int)) by omega, hb, hn, e1]
          exact ih' _
        · rw [if_neg hn] at ih'
          have hi := nb_in h z0 z1 hn
          simp (disch := (first | assumption | omega | exact Nat.le_of_ble_eq_true rfl | rfl)) only [w91_0, w91_1, w91_4, w91_5, w91_6, w91_7, w91_8, w91_11, w91_14, w91_15, w91_16, w91_17, w91_19, w91_21, w91_24, w91_26, w91_27, w91_30, w91_31, w91_32, w91_33, w91_35, w91_36, w91_37, w91_38, w91_42, w91_43, w91_44, w91_45, w91_46, w91_47, w91_50, w91_51, w91_54, w91_56, w91_57, w91_59, w91_61, w91_62, w91_65, w91_67, w91_68, w91_71, w91_73, w91_75, w91_76, w91_78, w91_79, w91_80, w91_81, w91_83, w91_86, w91_89, w91_91, Ko_n, Ko_v, vX_i, vX_r, vX_l, vX_j, reduceIte, Nat.reduceAdd, show ¬ (4 * z + 4 ≤ 4 * z + (j : Int)) by omega, hb, hn, e1]
          exact ih' _
    rw [if_neg hs, if_pos hc]
    simp (disch := (first | assumption | omega | exact Nat.le_of_ble_eq_true rfl | rfl)) only [w91_0, w91_1, w91_4, w91_5, w91_6, w91_7, w91_8, w91_11, w91_14, w91_15, w91_16, w91_17, w91_19, w91_21, w91_24, w91_26, w91_27, w91_30, w91_31, w91_32, w91_33, w91_35, w91_36, w91_37, w91_38, w91_42, w91_43, w91_44, w91_45, w91_46, w91_47, w91_50, w91_51, w91_54, w91_56, w91_57, w91_59, w91_61, w91_62, w91_65, w91_67, w91_68, w91_71, w91_73, w91_75, w91_76, w91_78, w91_79, w91_80, w91_81, w91_83, w91_86, w91_89, w91_91, Ko_n, Ko_v, vX_i, vX_r, vX_l, vX_j, reduceIte, Nat.reduceAdd, hs, not_false_eq_true, show ¬ s - σ 1000 160 z < 0 by omega, show s - σ 1000 160 z < s by omega]
    have := loop 4 0 vmJ (by omega)
    rw [show (4 * z + ((0 : Nat) : Int)) = 4 * z by omega] at this
    exact this
  · rw [if_neg hs, if_neg hc]
    by_cases hb : s - σ 1000 160 z < 0
    · simp (disch := (first | assumption | omega | exact Nat.le_of_ble_eq_true rfl | rfl)) only [w91_0, w91_1, w91_4, w91_5, w91_6, w91_7, w91_8, w91_11, w91_14, w91_15, w91_16, w91_17, w91_19, w91_21, w91_24, w91_26, w91_27, w91_30, w91_31, w91_32, w91_33, w91_35, w91_36, w91_37, w91_38, w91_42, w91_43, w91_44, w91_45, w91_46, w91_47, w91_50, w91_51, w91_54, w91_56, w91_57, w91_59, w91_61, w91_62, w91_65, w91_67, w91_68, w91_71, w91_73, w91_75, w91_76, w91_78, w91_79, w91_80, w91_81, w91_83, w91_86, w91_89, w91_91, Ko_n, Ko_v, vX_i, vX_r, vX_l, vX_j, reduceIte, Nat.reduceAdd, hs, not_false_eq_true, hb]
    · simp (disch := (first | assumption | omega | exact Nat.le_of_ble_eq_true rfl | rfl)) only [w91_0, w91_1, w91_4, w91_5, w91_6, w91_7, w91_8, w91_11, w91_14, w91_15, w91_16, w91_17, w91_19, w91_21, w91_24, w91_26, w91_27, w91_30, w91_31, w91_32, w91_33, w91_35, w91_36, w91_37, w91_38, w91_42, w91_43, w91_44, w91_45, w91_46, w91_47, w91_50, w91_51, w91_54, w91_56, w91_57, w91_59, w91_61, w91_62, w91_65, w91_67, w91_68, w91_71, w91_73, w91_75, w91_76, w91_78, w91_79, w91_80, w91_81, w91_83, w91_86, w91_89, w91_91, Ko_n, Ko_v, vX_i, vX_r, vX_l, vX_j, reduceIte, Nat.reduceAdd, hs, not_false_eq_true, hb, show ¬ s - σ 1000 160 z < s by omega]
/-- how many walks come to a cell by just so much, of those that lie on a whole one and don't come by a cell (a table up to n) -/
def cwL (W H : Int) (c : Int → Int) (lv : Nat → Int → Bool) : Nat → Nat → Int → Int64
  | 0 => fun _ k => if lv 0 k then i64 1 else i64 0
  | n + 1 => fun s => if s ≤ n then cwL W H c lv n s else fun k => if lv (n + 1) k then (if 1 ≤ c k ∧ c k ≤ n + 1 then mbI W H (fun x => (cwL W H c lv n (x / 36).toNat (x % 36)).toInt) (n + 1 - c k) k 4 else i64 0) else i64 0
def cw (W H : Int) (c : Int → Int) (lv : Nat → Int → Bool) (s : Nat) : Int → Int64 := cwL W H c lv s s
theorem cwL_cw {W H : Int} {c : Int → Int} {lv : Nat → Int → Bool} (n : Nat) {s : Nat} (h : s ≤ n) : cwL W H c lv n s = cw W H c lv s := by
  induction n with
  | zero => have : s = 0 := by omega
            rw [this]; rfl
  | succ n ih =>
    by_cases hs : s ≤ n
    · simp only [cwL]; rw [if_pos hs]; exact ih hs
    · have : s = n + 1 := by omega
      rw [this]; rfl
theorem mbI_congr {W H z b : Int} {M M' : Int → Int} (h : wh2 W H) (z0 : 0 ≤ z) (z1 : z < W * H) (he : ∀ k, 0 ≤ k → k < W * H → i64 (M (36 * b + k)) = i64 (M' (36 * b + k))) (j : Nat) : mbI W H M b z j = mbI W H M' b z j := by
  induction j with
  | zero => rfl
  | succ j ih =>
    simp only [mbI]
    by_cases hn : nbC W H z j = -1
    · rw [if_pos hn, if_pos hn, ih]
    · rw [if_neg hn, if_neg hn, ih]
      have hi := nb_in h z0 z1 hn
      rw [he _ hi.1 hi.2.1]
theorem cw_s {W H : Int} {c M : Int → Int} {lv : Nat → Int → Bool} (h : wh2 W H) {n : Nat} {k : Int} (k0 : 0 ≤ k) (k1 : k < W * H) (hM : ∀ (s : Nat) (j : Int), s ≤ n → 0 ≤ j → j < W * H → i64 (M (36 * s + j)) = cw W H c lv s j) : cw W H c lv (n + 1) k = if lv (n + 1) k then mbV W H c M ((n + 1 : Nat) : Int) k else i64 0 := by
  have hm := wh_mul h
  unfold cw
  simp only [cwL]
  rw [if_neg (by omega)]
  unfold mbV
  rw [if_neg (by omega : ¬ ((n + 1 : Nat) : Int) = 0)]
  have e1 : (((n + 1 : Nat) : Int)) = (n : Int) + 1 := by omega
  rw [e1]
  by_cases hc : 1 ≤ c k ∧ c k ≤ (n : Int) + 1
  · rw [if_pos hc, if_pos hc]
    rw [mbI_congr (M := fun x => (cwL W H c lv n (x / 36).toNat (x % 36)).toInt) (M' := M) h k0 k1 (fun j j0 j1 => by
      rw [i64_toInt, show ((36 * ((n : Int) + 1 - c k) + j) / 36).toNat = ((n : Int) + 1 - c k).toNat by omega, show (36 * ((n : Int) + 1 - c k) + j) % 36 = j by omega, cwL_cw n (by omega)]
      have := hM ((n : Int) + 1 - c k).toNat j (by omega) j0 j1
      rw [show ((((n : Int) + 1 - c k).toNat : Nat) : Int) = (n : Int) + 1 - c k by omega] at this
      exact this.symm)]
  · rw [if_neg hc, if_neg hc]
/-- which cells are counted -/
def lvB (W H : Int) (c : Int → Int) (a z : Int) (t : Nat) (av : Int) (s : Nat) : Int → Bool := fun k => (th W H c a s k && tc W H c z (t - s) k) && decide (k ≠ av)
theorem c90 {d t N : Nat} {k W H a z av : Int} {p : Nat} {c : Int → Int} {T : Tt} {σ : St} {Q : vmO → vmH → Prop} (hp : ob 4 p) (hg : geo σ p W H) (h : wh2 W H) (hN : (N : Int) = W * H) (hagr : agr (W * H) (σ 1000 160) c) (hcs : csIn c (W * H)) (ht : t ≤ 30) (h7 : σ 907 155 0 = t) (h6 : σ 906 155 0 = z) (z0 : 0 ≤ z) (z1 : z < W * H) (hTH : thU W H c a t (σ 901 155)) (hTC : tcU W H c z t (σ 902 155)) (av0 : -1 ≤ av) (av1 : av < 36)
    (hQ : ∀ M, Q (.inl (some (.long (cw W H c (lvB W H c a z t av) t z)))) (E T (upA σ 903 155 M))) : Ca (d + 1) k 90 [.ref 155, .ref p, .int (i32 av)] (E T σ) Q := by
  have hp3 := ob_lt hp
  have hr := ob_sk
  have hm := wh_mul h
  have hcell : σ 401 p 0 * σ 402 p 0 = N := by rw [hg.1, hg.2.1, hN]
  have hcs' : csIn (σ 1000 160) (W * H) := fun j j0 j1 => by rw [hagr j j0 j1]; exact hcs j j0 j1
  have loop2 : ∀ (s : Nat) (R : Prop), s ≤ t → ∀ (m n : Nat) (M : Int → Int) (l7 : Value), n + m = N → (∀ (s' : Nat) (j : Int), s' < s → 0 ≤ j → j < W * H → i64 (M (36 * s' + j)) = cw W H c (lvB W H c a z t av) s' j) → (∀ j : Int, 0 ≤ j → j < n → i64 (M (36 * s + j)) = cw W H c (lvB W H c a z t av) s j) → (∀ M l7, (∀ (s' : Nat) (j : Int), s' < s + 1 → 0 ≤ j → j < W * H → i64 (M (36 * s' + j)) = cw W H c (lvB W H c a z t av) s' j) → Wp (d + 1) M_X9_countWithout 2 [.ref 155, .ref p, .int (i32 av), .int (i32 ((s + 1 : Nat) : Int)), .long (bs fun k => th W H c a s k && tc W H c z (t - s) k), vmJ, .int (i32 N), l7] [] (E T (upA σ 903 155 M)) Q) → Wp (d + 1) M_X9_countWithout 33 [.ref 155, .ref p, .int (i32 av), .int (i32 s), .long (bs fun k => th W H c a s k && tc W H c z (t - s) k), vmJ, .int (i32 n), l7] [] (E T (upA σ 903 155 M)) Q := by
    intro s R hs m
    induction m with
    | zero =>
      intro n M l7 hn hM hM2 hgo
      have hn : n = N := by omega
      subst hn
      rw [w90_33]
      simp (disch := (first | assumption | omega | exact Nat.le_of_ble_eq_true rfl | rfl)) only [w90_0, w90_1, w90_3, w90_4, w90_7, w90_10, w90_11, w90_14, w90_15, w90_16, w90_17, w90_20, w90_21, w90_24, w90_25, w90_26, w90_27, w90_28, w90_30, w90_31, w90_35, w90_36, w90_39, w90_42, w90_44, w90_46, w90_49, w90_52, w90_54, w90_55, w90_58, w90_59, w90_62, w90_63, w90_65, w90_66, w90_69, w90_71, w90_72, w90_73, w90_75, w90_76, w90_78, w90_81, w90_82, w90_83, w90_84, w90_86, w90_89, w90_92, w90_93, w90_94, w90_97, w90_100, w90_103, w90_106, w90_107, w90_110, w90_112, w90_113, w90_116, w90_117, w90_118, w90_121, w90_122, w90_123, Ko_n, Ko_v, vX_i, vX_r, vX_l, vX_j, reduceIte, c26, upA_t, hcell, Int.le_refl]
      refine hgo M _ (fun s' j hs' j0 j1 => ?_)
      by_cases hss : s' = s
      · rw [hss]; exact hM2 j j0 (by omega)
      · exact hM s' j (by omega) j0 j1
    | succ m ih =>
      intro n M l7 hn hM hM2 hgo
      have hval : cw W H c (lvB W H c a z t av) s n = if lvB W H c a z t av s n then mbV W H (σ 1000 160) M s n else i64 0 := by
        have hmv : mbV W H (σ 1000 160) M s n = mbV W H c M s n := by unfold mbV; rw [hagr n (by omega) (by omega)]
        rw [hmv]
        cases s with
        | zero => rfl
        | succ s0 => exact cw_s h (by omega) (by omega) (fun s' j hs' j0 j1 => hM s' j (by omega) j0 j1)
      have ih' := fun v l7 (hv : i64 v = cw W H c (lvB W H c a z t av) s n) => ih (n + 1) (fu M (36 * s + n) v) l7 (by omega) (fun s' j hs' j0 j1 => by rw [fu_n (by omega)]; exact hM s' j hs' j0 j1) (fun j j0 j1 => by
        by_cases hjn : j = n
        · rw [hjn, fu_s]; exact hv
        · rw [fu_n (by omega)]; exact hM2 j j0 (by omega)) hgo
      rw [w90_33]
      simp (disch := (first | assumption | omega | exact Nat.le_of_ble_eq_true rfl | rfl)) only [w90_0, w90_1, w90_3, w90_4, w90_7, w90_10, w90_11, w90_14, w90_15, w90_16, w90_17, w90_20, w90_21, w90_24, w90_25, w90_26, w90_27, w90_28, w90_30, w90_31, w90_35, w90_36, w90_39, w90_42, w90_44, w90_46, w90_49, w90_52, w90_54, w90_55, w90_58, w90_59, w90_62, w90_63, w90_65, w90_66, w90_69, w90_71, w90_72, w90_73, w90_75, w90_76, w90_78, w90_81, w90_82, w90_83, w90_84, w90_86, w90_89, w90_92, w90_93, w90_94, w90_97, w90_100, w90_103, w90_106, w90_107, w90_110, w90_112, w90_113, w90_116, w90_117, w90_118, w90_121, w90_122, w90_123, Ko_n, Ko_v, vX_i, vX_r, vX_l, vX_j, reduceIte, c26, upA_t, hcell, show ¬ (N : Int) ≤ (n : Int) by omega]
      rw [c172 (by omega) (by omega) (by omega)]
      have hlv : lvB W H c a z t av s n = ((th W H c a s n && tc W H c z (t - s) n) && decide ((n : Int) ≠ av)) := rfl
      cases hlive : (th W H c a s n && tc W H c z (t - s) n) with
      | false =>
        rw [hlive, Bool.false_and] at hlv
        rw [hlv] at hval
        simp (disch := (first | assumption | omega | exact Nat.le_of_ble_eq_true rfl | rfl)) only [w90_0, w90_1, w90_3, w90_4, w90_7, w90_10, w90_11, w90_14, w90_15, w90_16, w90_17, w90_20, w90_21, w90_24, w90_25, w90_26, w90_27, w90_28, w90_30, w90_31, w90_35, w90_36, w90_39, w90_42, w90_44, w90_46, w90_49, w90_52, w90_54, w90_55, w90_58, w90_59, w90_62, w90_63, w90_65, w90_66, w90_69, w90_71, w90_72, w90_73, w90_75, w90_76, w90_78, w90_81, w90_82, w90_83, w90_84, w90_86, w90_89, w90_92, w90_93, w90_94, w90_97, w90_100, w90_103, w90_106, w90_107, w90_110, w90_112, w90_113, w90_116, w90_117, w90_118, w90_121, w90_122, w90_123, Ko_n, Ko_v, vX_i, vX_r, vX_l, vX_j, reduceIte, Int.reduceEq, Bool.false_eq_true, upA_s, upA_upA]
        exact ih' _ _ (by rw [i64_toInt, hval]; rfl)
      | true =>
        rw [hlive, Bool.true_and] at hlv
        by_cases hav : (n : Int) = av
        · rw [decide_eq_false (fun w => w hav)] at hlv
          rw [hlv] at hval
          simp (disch := (first | assumption | omega | exact Nat.le_of_ble_eq_true rfl | rfl)) only [w90_0, w90_1, w90_3, w90_4, w90_7, w90_10, w90_11, w90_14, w90_15, w90_16, w90_17, w90_20, w90_21, w90_24, w90_25, w90_26, w90_27, w90_28, w90_30, w90_31, w90_35, w90_36, w90_39, w90_42, w90_44, w90_46, w90_49, w90_52, w90_54, w90_55, w90_58, w90_59, w90_62, w90_63, w90_65, w90_66, w90_69, w90_71, w90_72, w90_73, w90_75, w90_76, w90_78, w90_81, w90_82, w90_83, w90_84, w90_86, w90_89, w90_92, w90_93, w90_94, w90_97, w90_100, w90_103, w90_106, w90_107, w90_110, w90_112, w90_113, w90_116, w90_117, w90_118, w90_121, w90_122, w90_123, Ko_n, Ko_v, vX_i, vX_r, vX_l, vX_j, reduceIte, Int.reduceEq, upA_s, upA_upA, show ((n : Int) = av) = True from eq_true hav]
          exact ih' _ _ (by rw [i64_toInt, hval]; rfl)
        · rw [decide_eq_true hav] at hlv
          rw [hlv] at hval
          simp (disch := (first | assumption | omega | exact Nat.le_of_ble_eq_true rfl | rfl)) only [w90_0, w90_1, w90_3, w90_4, w90_7, w90_10, w90_11, w90_14, w90_15, w90_16, w90_17, w90_20, w90_21, w90_24, w90_25, w90_26, w90_27, w90_28, w90_30, w90_31, w90_35, w90_36, w90_39, w90_42, w90_44, w90_46, w90_49, w90_52, w90_54, w90_55, w90_58, w90_59, w90_62, w90_63, w90_65, w90_66, w90_69, w90_71, w90_72, w90_73, w90_75, w90_76, w90_78, w90_81, w90_82, w90_83, w90_84, w90_86, w90_89, w90_92, w90_93, w90_94, w90_97, w90_100, w90_103, w90_106, w90_107, w90_110, w90_112, w90_113, w90_116, w90_117, w90_118, w90_121, w90_122, w90_123, Ko_n, Ko_v, vX_i, vX_r, vX_l, vX_j, reduceIte, Int.reduceEq, upA_s, upA_upA, hav]
          rw [c91 (σ := upA σ 903 155 M) hp (geo_t hg (upA_t (by omega)) (upA_t (by omega)) (upA_t (by omega)) (upA_t (by omega)) (upA_t (by omega)) (upA_t (by omega))) h (by rw [upA_t (by omega)]; exact hcs') (by omega) (by omega) (by omega) (by omega), upA_s, upA_t (by omega)]
          simp (disch := (first | assumption | omega | exact Nat.le_of_ble_eq_true rfl | rfl)) only [w90_0, w90_1, w90_3, w90_4, w90_7, w90_10, w90_11, w90_14, w90_15, w90_16, w90_17, w90_20, w90_21, w90_24, w90_25, w90_26, w90_27, w90_28, w90_30, w90_31, w90_35, w90_36, w90_39, w90_42, w90_44, w90_46, w90_49, w90_52, w90_54, w90_55, w90_58, w90_59, w90_62, w90_63, w90_65, w90_66, w90_69, w90_71, w90_72, w90_73, w90_75, w90_76, w90_78, w90_81, w90_82, w90_83, w90_84, w90_86, w90_89, w90_92, w90_93, w90_94, w90_97, w90_100, w90_103, w90_106, w90_107, w90_110, w90_112, w90_113, w90_116, w90_117, w90_118, w90_121, w90_122, w90_123, Ko_n, Ko_v, vX_i, vX_r, vX_l, vX_j, reduceIte, upA_s, upA_upA]
          exact ih' _ _ (by rw [i64_toInt, hval]; rfl)
  have loop1 : ∀ (m s : Nat) (M : Int → Int) (l4 l5 l6 l7 : Value), s + m = t + 1 → (∀ (s' : Nat) (j : Int), s' < s → 0 ≤ j → j < W * H → i64 (M (36 * s' + j)) = cw W H c (lvB W H c a z t av) s' j) → Wp (d + 1) M_X9_countWithout 2 [.ref 155, .ref p, .int (i32 av), .int (i32 s), l4, l5, l6, l7] [] (E T (upA σ 903 155 M)) Q := by
    intro m
    induction m with
    | zero =>
      intro s M l4 l5 l6 l7 hs hM
      have hs : s = t + 1 := by omega
      subst hs
      have e := hM t z (by omega) z0 z1
      rw [w90_2]
      simp (disch := (first | assumption | omega | exact Nat.le_of_ble_eq_true rfl | rfl)) only [w90_0, w90_1, w90_3, w90_4, w90_7, w90_10, w90_11, w90_14, w90_15, w90_16, w90_17, w90_20, w90_21, w90_24, w90_25, w90_26, w90_27, w90_28, w90_30, w90_31, w90_35, w90_36, w90_39, w90_42, w90_44, w90_46, w90_49, w90_52, w90_54, w90_55, w90_58, w90_59, w90_62, w90_63, w90_65, w90_66, w90_69, w90_71, w90_72, w90_73, w90_75, w90_76, w90_78, w90_81, w90_82, w90_83, w90_84, w90_86, w90_89, w90_92, w90_93, w90_94, w90_97, w90_100, w90_103, w90_106, w90_107, w90_110, w90_112, w90_113, w90_116, w90_117, w90_118, w90_121, w90_122, w90_123, Ko_n, Ko_v, vX_i, vX_r, vX_l, vX_j, reduceIte, upA_t, upA_s, h7, h6, show (t : Int) < ((t + 1 : Nat) : Int) by omega, e]
      exact hQ M
    | succ m ih =>
      intro s M l4 l5 l6 l7 hs hM
      have e1 := hTH s (by omega)
      have e2 := hTC (t - s) (by omega)
      rw [show ((t - s : Nat) : Int) = (t : Int) - s by omega] at e2
      have key := loop2 s True (by omega) N 0 M l7 (by omega) hM (fun j j0 j1 => by omega) (fun M l7 hM' => ih (s + 1) M _ _ _ _ (by omega) hM')
      rw [w90_2]
      simp (disch := (first | assumption | omega | exact Nat.le_of_ble_eq_true rfl | rfl)) only [w90_0, w90_1, w90_3, w90_4, w90_7, w90_10, w90_11, w90_14, w90_15, w90_16, w90_17, w90_20, w90_21, w90_24, w90_25, w90_26, w90_27, w90_28, w90_30, w90_31, w90_35, w90_36, w90_39, w90_42, w90_44, w90_46, w90_49, w90_52, w90_54, w90_55, w90_58, w90_59, w90_62, w90_63, w90_65, w90_66, w90_69, w90_71, w90_72, w90_73, w90_75, w90_76, w90_78, w90_81, w90_82, w90_83, w90_84, w90_86, w90_89, w90_92, w90_93, w90_94, w90_97, w90_100, w90_103, w90_106, w90_107, w90_110, w90_112, w90_113, w90_116, w90_117, w90_118, w90_121, w90_122, w90_123, Ko_n, Ko_v, vX_i, vX_r, vX_l, vX_j, reduceIte, upA_t, h7, show ¬ (t : Int) < (s : Int) by omega, e1, e2, bs_and]
      exact key
  rw [n90 _ _ _ _ _ _ _ _ hr]
  simp (disch := (first | assumption | omega | exact Nat.le_of_ble_eq_true rfl | rfl)) only [w90_0, w90_1, w90_3, w90_4, w90_7, w90_10, w90_11, w90_14, w90_15, w90_16, w90_17, w90_20, w90_21, w90_24, w90_25, w90_26, w90_27, w90_28, w90_30, w90_31, w90_35, w90_36, w90_39, w90_42, w90_44, w90_46, w90_49, w90_52, w90_54, w90_55, w90_58, w90_59, w90_62, w90_63, w90_65, w90_66, w90_69, w90_71, w90_72, w90_73, w90_75, w90_76, w90_78, w90_81, w90_82, w90_83, w90_84, w90_86, w90_89, w90_92, w90_93, w90_94, w90_97, w90_100, w90_103, w90_106, w90_107, w90_110, w90_112, w90_113, w90_116, w90_117, w90_118, w90_121, w90_122, w90_123, Ko_n, Ko_v, vX_i, vX_r, vX_l, vX_j, reduceIte]
  have := loop1 (t + 1) 0 (σ 903 155) vmJ vmJ vmJ vmJ (by omega) (fun s' j hs' => by omega)
  rw [upA_self] at this
  exact this
