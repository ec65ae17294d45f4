/-! ===== Growth: one night, many ===== -/
def nsS (σ : St) (g s : Nat) (F S tk : Int → Int) (nt tm : Int) : St := upA (upA (upA (upA (upA σ 201 g F) 200 g S) 701 s tk) 705 s fun _ => nt) 704 s fun _ => tm
theorem ns1 {σ : St} {g s : Nat} {F S tk : Int → Int} {nt tm : Int} : nsS σ g s F S tk nt tm 701 s = tk := by unfold nsS; rw [upA_t (by omega), upA_t (by omega), upA_s]
theorem ns5 {σ : St} {g s : Nat} {F S tk : Int → Int} {nt tm : Int} : nsS σ g s F S tk nt tm 705 s = fun _ => nt := by unfold nsS; rw [upA_t (by omega), upA_s]
theorem ns4 {σ : St} {g s : Nat} {F S tk : Int → Int} {nt tm : Int} : nsS σ g s F S tk nt tm 704 s = fun _ => tm := by unfold nsS; rw [upA_s]
theorem nst {σ : St} {g s t o : Nat} {F S tk : Int → Int} {nt tm : Int} (h1 : t ≠ 200) (h2 : t ≠ 201) (h3 : t ≠ 701) (h4 : t ≠ 704) (h5 : t ≠ 705) : nsS σ g s F S tk nt tm t o = σ t o := by unfold nsS; rw [upA_t h4, upA_t h5, upA_t h3, upA_t h1, upA_t h2]
theorem nu_g {σ : St} {g s : Nat} {F S F' S' tk : Int → Int} {nt tm : Int} : upA (upA (nsS σ g s F S tk nt tm) 201 g F') 200 g S' = nsS σ g s F' S' tk nt tm := by
  unfold nsS
  rw [upA_comm (t := 704) (t' := 201) (by omega), upA_comm (t := 705) (t' := 201) (by omega), upA_comm (t := 701) (t' := 201) (by omega), upA_comm (t := 200) (t' := 201) (by omega), upA_upA,
    upA_comm (t := 704) (t' := 200) (by omega), upA_comm (t := 705) (t' := 200) (by omega), upA_comm (t := 701) (t' := 200) (by omega), upA_upA]
theorem nu_1 {σ : St} {g s : Nat} {F S tk tk' : Int → Int} {nt tm : Int} : upA (nsS σ g s F S tk nt tm) 701 s tk' = nsS σ g s F S tk' nt tm := by
  unfold nsS
  rw [upA_comm (t := 704) (t' := 701) (by omega), upA_comm (t := 705) (t' := 701) (by omega), upA_upA]
theorem nu_5 {σ : St} {g s : Nat} {F S tk : Int → Int} {nt tm nt' : Int} : upA (nsS σ g s F S tk nt tm) 705 s (fun _ => nt') = nsS σ g s F S tk nt' tm := by
  unfold nsS
  rw [upA_comm (t := 704) (t' := 705) (by omega), upA_upA]
theorem nu_4 {σ : St} {g s : Nat} {F S tk : Int → Int} {nt tm tm' : Int} : upA (nsS σ g s F S tk nt tm) 704 s (fun _ => tm') = nsS σ g s F S tk nt tm' := by
  unfold nsS
  rw [upA_upA]
theorem n_self {σ : St} {g s : Nat} (h5 : σ 705 s = fun _ => σ 705 s 0) (h4 : σ 704 s = fun _ => σ 704 s 0) : nsS σ g s (σ 201 g) (σ 200 g) (σ 701 s) (σ 705 s 0) (σ 704 s 0) = σ := by
  unfold nsS
  rw [upA_self, upA_self, upA_self, upA_same h5, upA_same h4]
def thk (G : Int → Bool) (tk : Int → Int) : Int → Int := fun j => if G j then tk j + 1 else tk j
theorem c19 {d : Nat} {k W H : Int} {g p s many N : Nat} {T : Tt} {σ : St} {Q : vmO → vmH → Prop} {F S tk : Int → Int} {nt tm : Int} (hg : ob 2 g) (hp : ob 4 p) (hs : ob 7 s) (hge : geo σ p W H) (h : whOk W H) (hN : (N : Int) = W * H) (hkd : kdOk (σ 700 s)) (htk : tkOk tk) (n0 : 0 ≤ nt) (n1 : nt < 2000000000) (hm : σ 301 (p + 4) 0 = many) (hm1 : many ≤ 900) (hlaw : lawG (σ 300 (p + 4)) many)
    (hQ : ∀ F S, Q (.inl (some (.int (i32 (cnt (fun z => grB W H (σ 700 s) tk nt (σ 300 (p + 4)) many z && decide (z < N)) 64))))) (E T (nsS σ g s F S (cp (thk (grB W H (σ 700 s) tk nt (σ 300 (p + 4)) many) tk) tk N) (nt + 1) 0))) : Ca (d + 3) k 19 [.ref g, .ref p, .ref s] (E T (nsS σ g s F S tk nt tm)) Q := by
  have hg3 := ob_lt hg
  have hp3 := ob_lt hp
  have hs3 := ob_lt hs
  have hm36 := wh_mul0 h
  obtain ⟨g1, g2, g3, g4, g5, g6⟩ := id hge
  have hcell : σ 401 p 0 * σ 402 p 0 = N := by rw [g1, g2, hN]
  generalize hG : grB W H (σ 700 s) tk nt (σ 300 (p + 4)) many = G at hQ
  have loop2 : ∀ (m n : Nat) (F S : Int → Int) (l3 l5 : Int64), n + m = N → l5 = bs (fun z => G z && decide (z < N)) → Wp (d + 3) M_X2_passOne 50 [.ref g, .ref p, .ref s, .long l3, vmJ, .long l5, vmJ, .int (i32 n)] [] (E T (nsS σ g s F S (cp (thk G tk) tk n) nt tm)) Q := by
    intro m
    induction m with
    | zero =>
      intro n F S l3 l5 hn hl5
      have hn : n = N := by omega
      subst hn
      rw [w19_50]
      simp (disch := (first | assumption | omega | exact Nat.le_of_ble_eq_true rfl | rfl)) only [w19_0, w19_1, w19_4, w19_5, w19_6, w19_8, w19_9, w19_13, w19_14, w19_17, w19_20, w19_21, w19_22, w19_23, w19_25, w19_26, w19_29, w19_32, w19_34, w19_35, w19_37, w19_38, w19_39, w19_41, w19_44, w19_47, w19_48, w19_52, w19_53, w19_56, w19_59, w19_61, w19_63, w19_66, w19_69, w19_70, w19_73, w19_75, w19_76, w19_77, w19_78, w19_79, w19_80, w19_83, w19_86, w19_87, w19_88, w19_91, w19_92, w19_93, w19_96, w19_97, w19_98, w19_101, w19_103, w19_106, Ko_n, Ko_v, vX_i, vX_r, vX_l, vX_j, reduceIte, c26, nst, hcell, Int.le_refl, ns5, nu_5, nu_4]
      rw [hl5, c307 (by omega)]
      simp (disch := (first | assumption | omega | exact Nat.le_of_ble_eq_true rfl | rfl)) only [w19_0, w19_1, w19_4, w19_5, w19_6, w19_8, w19_9, w19_13, w19_14, w19_17, w19_20, w19_21, w19_22, w19_23, w19_25, w19_26, w19_29, w19_32, w19_34, w19_35, w19_37, w19_38, w19_39, w19_41, w19_44, w19_47, w19_48, w19_52, w19_53, w19_56, w19_59, w19_61, w19_63, w19_66, w19_69, w19_70, w19_73, w19_75, w19_76, w19_77, w19_78, w19_79, w19_80, w19_83, w19_86, w19_87, w19_88, w19_91, w19_92, w19_93, w19_96, w19_97, w19_98, w19_101, w19_103, w19_106, Ko_n, Ko_v, vX_i, vX_r, vX_l, vX_j, reduceIte]
      exact hQ F S
    | succ m ih =>
      intro n F S l3 l5 hn hl5
      have htn := htk n (by omega) (by omega)
      have hz : cp (thk G tk) tk n n = tk n := cp_ge (by omega)
      have ih' := ih (n + 1) F S l3 l5 (by omega) hl5
      rw [show cp (thk G tk) tk ((n + 1 : Nat) : Int) = fu (cp (thk G tk) tk n) n (thk G tk n) by rw [cp_fu (by omega)]; rfl] at ih'
      rw [w19_50]
      simp (disch := (first | assumption | omega | exact Nat.le_of_ble_eq_true rfl | rfl)) only [w19_0, w19_1, w19_4, w19_5, w19_6, w19_8, w19_9, w19_13, w19_14, w19_17, w19_20, w19_21, w19_22, w19_23, w19_25, w19_26, w19_29, w19_32, w19_34, w19_35, w19_37, w19_38, w19_39, w19_41, w19_44, w19_47, w19_48, w19_52, w19_53, w19_56, w19_59, w19_61, w19_63, w19_66, w19_69, w19_70, w19_73, w19_75, w19_76, w19_77, w19_78, w19_79, w19_80, w19_83, w19_86, w19_87, w19_88, w19_91, w19_92, w19_93, w19_96, w19_97, w19_98, w19_101, w19_103, w19_106, Ko_n, Ko_v, vX_i, vX_r, vX_l, vX_j, reduceIte, c26, nst, hcell, show ¬ (N : Int) ≤ (n : Int) by omega]
      rw [hl5, c172 (by omega) (by omega) (by omega), decide_eq_true (by omega : (n : Int) < N), Bool.and_true]
      rw [hl5] at ih'
      cases hgn : G n with
      | true =>
        have e1 : thk G tk n = tk n + 1 := by unfold thk; rw [hgn]; rfl
        rw [e1] at ih'
        simp (disch := (first | assumption | omega | exact Nat.le_of_ble_eq_true rfl | rfl)) only [w19_0, w19_1, w19_4, w19_5, w19_6, w19_8, w19_9, w19_13, w19_14, w19_17, w19_20, w19_21, w19_22, w19_23, w19_25, w19_26, w19_29, w19_32, w19_34, w19_35, w19_37, w19_38, w19_39, w19_41, w19_44, w19_47, w19_48, w19_52, w19_53, w19_56, w19_59, w19_61, w19_63, w19_66, w19_69, w19_70, w19_73, w19_75, w19_76, w19_77, w19_78, w19_79, w19_80, w19_83, w19_86, w19_87, w19_88, w19_91, w19_92, w19_93, w19_96, w19_97, w19_98, w19_101, w19_103, w19_106, Ko_n, Ko_v, vX_i, vX_r, vX_l, vX_j, reduceIte, Int.reduceEq, ns1, hz, nu_1]
        exact ih'
      | false =>
        have e1 : thk G tk n = tk n := by unfold thk; rw [hgn]; rfl
        rw [e1, ← hz, fu_self] at ih'
        simp (disch := (first | assumption | omega | exact Nat.le_of_ble_eq_true rfl | rfl)) only [w19_0, w19_1, w19_4, w19_5, w19_6, w19_8, w19_9, w19_13, w19_14, w19_17, w19_20, w19_21, w19_22, w19_23, w19_25, w19_26, w19_29, w19_32, w19_34, w19_35, w19_37, w19_38, w19_39, w19_41, w19_44, w19_47, w19_48, w19_52, w19_53, w19_56, w19_59, w19_61, w19_63, w19_66, w19_69, w19_70, w19_73, w19_75, w19_76, w19_77, w19_78, w19_79, w19_80, w19_83, w19_86, w19_87, w19_88, w19_91, w19_92, w19_93, w19_96, w19_97, w19_98, w19_101, w19_103, w19_106, Ko_n, Ko_v, vX_i, vX_r, vX_l, vX_j, reduceIte, Int.reduceEq, Bool.false_eq_true]
        exact ih'
  have loop1 : ∀ (m n : Nat) (F S : Int → Int), n + m = N → Wp (d + 3) M_X2_passOne 11 [.ref g, .ref p, .ref s, .long (bs (hgB (σ 700 s))), vmJ, .long (bs (fun z => G z && decide (z < n))), vmJ, .int (i32 n)] [] (E T (nsS σ g s F S tk nt tm)) Q := by
    intro m
    induction m with
    | zero =>
      intro n F S hn
      have hn : n = N := by omega
      subst hn
      have h2 := loop2 n 0 F S (bs (hgB (σ 700 s))) (bs (fun z => G z && decide (z < n))) (by omega) rfl
      rw [show ((0 : Nat) : Int) = 0 from rfl, cp_0] at h2
      rw [w19_11]
      simp (disch := (first | assumption | omega | exact Nat.le_of_ble_eq_true rfl | rfl)) only [w19_0, w19_1, w19_4, w19_5, w19_6, w19_8, w19_9, w19_13, w19_14, w19_17, w19_20, w19_21, w19_22, w19_23, w19_25, w19_26, w19_29, w19_32, w19_34, w19_35, w19_37, w19_38, w19_39, w19_41, w19_44, w19_47, w19_48, w19_52, w19_53, w19_56, w19_59, w19_61, w19_63, w19_66, w19_69, w19_70, w19_73, w19_75, w19_76, w19_77, w19_78, w19_79, w19_80, w19_83, w19_86, w19_87, w19_88, w19_91, w19_92, w19_93, w19_96, w19_97, w19_98, w19_101, w19_103, w19_106, Ko_n, Ko_v, vX_i, vX_r, vX_l, vX_j, reduceIte, c26, nst, hcell, Int.le_refl]
      exact h2
    | succ m ih =>
      intro n F S hn
      have hw2 : wh2 W H := by
        rcases h with ⟨rfl, rfl⟩ | h
        · omega
        · exact h
      rw [w19_11]
      simp (disch := (first | assumption | omega | exact Nat.le_of_ble_eq_true rfl | rfl)) only [w19_0, w19_1, w19_4, w19_5, w19_6, w19_8, w19_9, w19_13, w19_14, w19_17, w19_20, w19_21, w19_22, w19_23, w19_25, w19_26, w19_29, w19_32, w19_34, w19_35, w19_37, w19_38, w19_39, w19_41, w19_44, w19_47, w19_48, w19_52, w19_53, w19_56, w19_59, w19_61, w19_63, w19_66, w19_69, w19_70, w19_73, w19_75, w19_76, w19_77, w19_78, w19_79, w19_80, w19_83, w19_86, w19_87, w19_88, w19_91, w19_92, w19_93, w19_96, w19_97, w19_98, w19_101, w19_103, w19_106, Ko_n, Ko_v, vX_i, vX_r, vX_l, vX_j, reduceIte, c26, nst, hcell, show ¬ (N : Int) ≤ (n : Int) by omega]
      rw [show hgB (σ 700 s) = hgB (nsS σ g s F S tk nt tm 700 s) by rw [nst (by omega) (by omega) (by omega) (by omega) (by omega)]]
      refine c16 (σ := nsS σ g s F S tk nt tm) (many := many) hg hp hs (geo_t hge (nst (by omega) (by omega) (by omega) (by omega) (by omega)) (nst (by omega) (by omega) (by omega) (by omega) (by omega)) (nst (by omega) (by omega) (by omega) (by omega) (by omega)) (nst (by omega) (by omega) (by omega) (by omega) (by omega)) (nst (by omega) (by omega) (by omega) (by omega) (by omega)) (nst (by omega) (by omega) (by omega) (by omega) (by omega))) hw2 (by rw [nst (by omega) (by omega) (by omega) (by omega) (by omega)]; exact hkd) (by rw [ns1]; exact htk) (by rw [ns5]; exact n0) (by rw [ns5]; show nt < 2147483648; omega) (by rw [nst (by omega) (by omega) (by omega) (by omega) (by omega)]; exact hm) hm1 (by rw [nst (by omega) (by omega) (by omega) (by omega) (by omega)]; exact hlaw) (by omega) (by omega) ?_
      intro F' S'
      rw [nu_g, ns1, ns5, nst (by omega) (by omega) (by omega) (by omega) (by omega), nst (by omega) (by omega) (by omega) (by omega) (by omega), hG]
      have ih' := ih (n + 1) F' S' (by omega)
      cases hgn : G n with
      | true =>
        simp (disch := (first | assumption | omega | exact Nat.le_of_ble_eq_true rfl | rfl)) only [w19_0, w19_1, w19_4, w19_5, w19_6, w19_8, w19_9, w19_13, w19_14, w19_17, w19_20, w19_21, w19_22, w19_23, w19_25, w19_26, w19_29, w19_32, w19_34, w19_35, w19_37, w19_38, w19_39, w19_41, w19_44, w19_47, w19_48, w19_52, w19_53, w19_56, w19_59, w19_61, w19_63, w19_66, w19_69, w19_70, w19_73, w19_75, w19_76, w19_77, w19_78, w19_79, w19_80, w19_83, w19_86, w19_87, w19_88, w19_91, w19_92, w19_93, w19_96, w19_97, w19_98, w19_101, w19_103, w19_106, Ko_n, Ko_v, vX_i, vX_r, vX_l, vX_j, reduceIte, Int.reduceEq, bs_add]
        rw [bs_congr (p := fun k => G k && decide (k < (n : Int)) || decide (k = (n : Int))) (q := fun z => G z && decide (z < ((n + 1 : Nat) : Int)))]
        · exact ih'
        · intro j _ _
          by_cases hj : j = n
          · rw [hj, hgn]; simp; omega
          · rw [decide_eq_false hj, Bool.or_false]
            by_cases hj2 : j < n
            · rw [decide_eq_true hj2, decide_eq_true (by omega : j < ((n + 1 : Nat) : Int))]
            · rw [decide_eq_false hj2, decide_eq_false (by omega : ¬ j < ((n + 1 : Nat) : Int))]
      | false =>
        simp (disch := (first | assumption | omega | exact Nat.le_of_ble_eq_true rfl | rfl)) only [w19_0, w19_1, w19_4, w19_5, w19_6, w19_8, w19_9, w19_13, w19_14, w19_17, w19_20, w19_21, w19_22, w19_23, w19_25, w19_26, w19_29, w19_32, w19_34, w19_35, w19_37, w19_38, w19_39, w19_41, w19_44, w19_47, w19_48, w19_52, w19_53, w19_56, w19_59, w19_61, w19_63, w19_66, w19_69, w19_70, w19_73, w19_75, w19_76, w19_77, w19_78, w19_79, w19_80, w19_83, w19_86, w19_87, w19_88, w19_91, w19_92, w19_93, w19_96, w19_97, w19_98, w19_101, w19_103, w19_106, Ko_n, Ko_v, vX_i, vX_r, vX_l, vX_j, reduceIte, Int.reduceEq, Bool.false_eq_true]
        rw [bs_congr (p := fun z => G z && decide (z < (n : Int))) (q := fun z => G z && decide (z < ((n + 1 : Nat) : Int)))]
        · exact ih'
        · intro j _ _
          by_cases hj : j = n
          · rw [hj, hgn]; simp
          · by_cases hj2 : j < n
            · rw [decide_eq_true hj2, decide_eq_true (by omega : j < ((n + 1 : Nat) : Int))]
            · rw [decide_eq_false hj2, decide_eq_false (by omega : ¬ j < ((n + 1 : Nat) : Int))]
  rw [n19 _ _ _ _ _ _ _ _ hg]
  simp (disch := (first | assumption | omega | exact Nat.le_of_ble_eq_true rfl | rfl)) only [w19_0, w19_1, w19_4, w19_5, w19_6, w19_8, w19_9, w19_13, w19_14, w19_17, w19_20, w19_21, w19_22, w19_23, w19_25, w19_26, w19_29, w19_32, w19_34, w19_35, w19_37, w19_38, w19_39, w19_41, w19_44, w19_47, w19_48, w19_52, w19_53, w19_56, w19_59, w19_61, w19_63, w19_66, w19_69, w19_70, w19_73, w19_75, w19_76, w19_77, w19_78, w19_79, w19_80, w19_83, w19_86, w19_87, w19_88, w19_91, w19_92, w19_93, w19_96, w19_97, w19_98, w19_101, w19_103, w19_106, Ko_n, Ko_v, vX_i, vX_r, vX_l, vX_j, reduceIte]
  rw [c75 hs (by rw [nst (by omega) (by omega) (by omega) (by omega) (by omega)]; exact hkd), nst (by omega) (by omega) (by omega) (by omega) (by omega)]
  simp (disch := (first | assumption | omega | exact Nat.le_of_ble_eq_true rfl | rfl)) only [w19_0, w19_1, w19_4, w19_5, w19_6, w19_8, w19_9, w19_13, w19_14, w19_17, w19_20, w19_21, w19_22, w19_23, w19_25, w19_26, w19_29, w19_32, w19_34, w19_35, w19_37, w19_38, w19_39, w19_41, w19_44, w19_47, w19_48, w19_52, w19_53, w19_56, w19_59, w19_61, w19_63, w19_66, w19_69, w19_70, w19_73, w19_75, w19_76, w19_77, w19_78, w19_79, w19_80, w19_83, w19_86, w19_87, w19_88, w19_91, w19_92, w19_93, w19_96, w19_97, w19_98, w19_101, w19_103, w19_106, Ko_n, Ko_v, vX_i, vX_r, vX_l, vX_j, reduceIte]
  have := loop1 N 0 F S (by omega)
  rw [bs_congr (p := fun z => G z && decide (z < ((0 : Nat) : Int))) (q := fun _ => false), ← bs_none] at this
  · exact this
  · intro j j0 _
    rw [decide_eq_false (by omega : ¬ j < ((0 : Nat) : Int)), Bool.and_false]
/-! the thicknesses behind so many nights, and by how much more -/
def ngT (W H : Int) (kd : Int → Int) (cd : Int → Int) (many N : Nat) (tk : Int → Int) (nt : Int) : Nat → Int → Int
  | 0 => tk
  | n + 1 => cp (thk (grB W H kd (ngT W H kd cd many N tk nt n) (nt + n) cd many) (ngT W H kd cd many N tk nt n)) (ngT W H kd cd many N tk nt n) N
def ngC (W H : Int) (kd : Int → Int) (cd : Int → Int) (many N : Nat) (tk : Int → Int) (nt : Int) : Nat → Int
  | 0 => 0
  | n + 1 => ngC W H kd cd many N tk nt n + cnt (fun z => grB W H kd (ngT W H kd cd many N tk nt n) (nt + n) cd many z && decide (z < N)) 64
theorem ngT_ok {W H nt : Int} {kd cd tk : Int → Int} {many N : Nat} (hN : N ≤ 36) (h : tkOk tk) (n : Nat) : tkOk (ngT W H kd cd many N tk nt n) := by
  induction n with
  | zero => exact h
  | succ n ih =>
    intro j j0 j1
    have := ih j j0 j1
    simp only [ngT]
    unfold cp
    by_cases hj : 0 ≤ j ∧ j < (N : Int)
    · rw [if_pos hj]
      unfold thk
      cases hg : grB W H kd (ngT W H kd cd many N tk nt n) (nt + n) cd many j with
      | false => simpa using this
      | true =>
        have h60 : ngT W H kd cd many N tk nt n j < 60 := by
          unfold grB at hg
          simp only [Bool.and_eq_true, decide_eq_true_eq] at hg
          exact hg.2.1
        simp only [if_true]
        omega
    · rw [if_neg hj]; exact this
theorem ngC_in {W H nt : Int} {kd cd tk : Int → Int} {many N : Nat} (n : Nat) : 0 ≤ ngC W H kd cd many N tk nt n ∧ ngC W H kd cd many N tk nt n ≤ 64 * n := by
  induction n with
  | zero => exact ⟨Int.le_refl _, Int.le_refl _⟩
  | succ n ih =>
    simp only [ngC]
    have := cnt_in (p := fun z => grB W H kd (ngT W H kd cd many N tk nt n) (nt + n) cd many z && decide (z < N)) 64
    omega
theorem c18 {d : Nat} {k W H : Int} {g p s many N n : Nat} {T : Tt} {σ : St} {Q : vmO → vmH → Prop} (hg : ob 2 g) (hp : ob 4 p) (hs : ob 7 s) (hge : geo σ p W H) (h : whOk W H) (hN : (N : Int) = W * H) (hkd : kdOk (σ 700 s)) (htk : tkOk (σ 701 s)) (n0 : 0 ≤ σ 705 s 0) (n1 : σ 705 s 0 < 1000000000) (hm : σ 301 (p + 4) 0 = many) (hm1 : many ≤ 900) (hlaw : lawG (σ 300 (p + 4)) many) (hn : n ≤ 99) (h5 : σ 705 s = fun _ => σ 705 s 0) (h4 : σ 704 s = fun _ => σ 704 s 0)
    (hQ : ∀ F S, Q (.inl (some (.int (i32 (ngC W H (σ 700 s) (σ 300 (p + 4)) many N (σ 701 s) (σ 705 s 0) n))))) (E T (nsS σ g s F S (ngT W H (σ 700 s) (σ 300 (p + 4)) many N (σ 701 s) (σ 705 s 0) n) (σ 705 s 0 + n) (if n = 0 then σ 704 s 0 else 0)))) : Ca (d + 4) k 18 [.ref g, .ref p, .ref s, .int (i32 n)] (E T σ) Q := by
  have hg3 := ob_lt hg
  have hp3 := ob_lt hp
  have hs3 := ob_lt hs
  have hm36 := wh_mul0 h
  have loop : ∀ (m i : Nat) (F S : Int → Int), i + m = n → Wp (d + 4) M_X2_pass 6 [.ref g, .ref p, .ref s, .int (i32 n), .int (i32 (ngC W H (σ 700 s) (σ 300 (p + 4)) many N (σ 701 s) (σ 705 s 0) i)), .int (i32 i)] [] (E T (nsS σ g s F S (ngT W H (σ 700 s) (σ 300 (p + 4)) many N (σ 701 s) (σ 705 s 0) i) (σ 705 s 0 + i) (if i = 0 then σ 704 s 0 else 0))) Q := by
    intro m
    induction m with
    | zero =>
      intro i F S hi
      have hi : i = n := by omega
      subst hi
      rw [w18_6]
      simp (disch := (first | assumption | omega | exact Nat.le_of_ble_eq_true rfl | rfl)) only [w18_0, w18_1, w18_3, w18_4, w18_8, w18_9, w18_12, w18_14, w18_15, w18_16, w18_17, w18_20, w18_21, w18_23, w18_26, w18_29, w18_31, Ko_n, Ko_v, vX_i, vX_r, vX_l, vX_j, reduceIte, Int.le_refl]
      exact hQ F S
    | succ m ih =>
      intro i F S hi
      rw [w18_6]
      simp (disch := (first | assumption | omega | exact Nat.le_of_ble_eq_true rfl | rfl)) only [w18_0, w18_1, w18_3, w18_4, w18_8, w18_9, w18_12, w18_14, w18_15, w18_16, w18_17, w18_20, w18_21, w18_23, w18_26, w18_29, w18_31, Ko_n, Ko_v, vX_i, vX_r, vX_l, vX_j, reduceIte, show ¬ (n : Int) ≤ (i : Int) by omega]
      refine c19 (many := many) (N := N) hg hp hs hge h hN hkd (ngT_ok (by omega) htk i) (by omega) (by omega) hm hm1 hlaw ?_
      intro F' S'
      have ih' := ih (i + 1) F' S' (by omega)
      rw [if_neg (by omega), show (σ 705 s 0 + ((i + 1 : Nat) : Int)) = σ 705 s 0 + i + 1 by omega] at ih'
      simp only [ngT, ngC] at ih'
      simp (disch := (first | assumption | omega | exact Nat.le_of_ble_eq_true rfl | rfl)) only [w18_0, w18_1, w18_3, w18_4, w18_8, w18_9, w18_12, w18_14, w18_15, w18_16, w18_17, w18_20, w18_21, w18_23, w18_26, w18_29, w18_31, Ko_n, Ko_v, vX_i, vX_r, vX_l, vX_j, reduceIte]
      exact ih'
  rw [n18 _ _ _ _ _ _ _ _ _ hg]
  simp (disch := (first | assumption | omega | exact Nat.le_of_ble_eq_true rfl | rfl)) only [w18_0, w18_1, w18_3, w18_4, w18_8, w18_9, w18_12, w18_14, w18_15, w18_16, w18_17, w18_20, w18_21, w18_23, w18_26, w18_29, w18_31, Ko_n, Ko_v, vX_i, vX_r, vX_l, vX_j, reduceIte]
  have := loop n 0 (σ 201 g) (σ 200 g) (by omega)
  simp only [ngT, ngC, if_true] at this
  rw [show σ 705 s 0 + ((0 : Nat) : Int) = σ 705 s 0 by omega, n_self h5 h4] at this
  exact this
