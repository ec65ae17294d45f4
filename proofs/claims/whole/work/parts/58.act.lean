/-! ===== Deeds: done ===== -/
theorem E_same {T : Tt} {σ : St} {a ci c tag k : Nat} (hs : ob ci a) (hf : (FD ci)[c]? = some (k, tag)) (hk : k ≠ 2) : E T (upA σ tag a fun _ => σ tag a 0) = E T σ := by
  have hw : fv (upA σ tag a fun _ => σ tag a 0) a (k, tag) = fv σ a (k, tag) := by
    unfold fv
    dsimp only
    rw [upA_s]
  rw [← E_setF hs hf hk hw]
  have hset : ((FD ci).map (fv σ a)).set c (fv σ a (k, tag)) = (FD ci).map (fv σ a) := by
    apply List.ext_getElem
    · simp
    · intro i h1 h2
      rw [List.getElem_set]
      by_cases hic : c = i
      · rw [if_pos hic]
        have hi : i < (FD ci).length := by simpa using h2
        rw [List.getElem_map]
        congr 1
        rw [hic, List.getElem?_eq_getElem hi] at hf
        exact (Option.some.inj hf).symm
      · rw [if_neg hic]
  rw [hset]
  have hat := E_ob (T := T) (σ := σ) hs
  unfold vmSet vmUp
  have : (fun j => if j = a then some (Sum.inr (ci, (FD ci).map (fv σ a))) else (E T σ).2.2.2 j) = (E T σ).2.2.2 := by
    funext j
    by_cases hj : j = a
    · rw [if_pos hj, hj, hat]
    · rw [if_neg hj]
  rw [this]
theorem n_selfE {T : Tt} {σ : St} {g s : Nat} (hs : ob 7 s) : E T (nsS σ g s (σ 201 g) (σ 200 g) (σ 701 s) (σ 705 s 0) (σ 704 s 0)) = E T σ := by
  unfold nsS
  rw [upA_self, upA_self, upA_self]
  have h4 := E_same (T := T) (σ := upA σ 705 s fun _ => σ 705 s 0) (c := 4) (tag := 704) (k := 0) hs rfl (by omega)
  rw [upA_t (by omega)] at h4
  rw [h4]
  exact E_same (c := 5) (tag := 705) (k := 0) hs rfl (by omega)
theorem c18n {d : Nat} {k W H : Int} {g p s many N n : Nat} {T : Tt} {σ : St} {Q : vmO → vmH → Prop} (hg : ob 2 g) (hp : ob 4 p) (hs : ob 7 s) (hge : geo σ p W H) (h : whOk W H) (hN : (N : Int) = W * H) (hkd : kdOk (σ 700 s)) (htk : tkOk (σ 701 s)) (n0 : 0 ≤ σ 705 s 0) (n1 : σ 705 s 0 < 1000000000) (hm : σ 301 (p + 4) 0 = many) (hm1 : many ≤ 900) (hlaw : lawG (σ 300 (p + 4)) many) (hn : n ≤ 99)
    (hQ : ∀ F S, Q (.inl (some (.int (i32 (ngC W H (σ 700 s) (σ 300 (p + 4)) many N (σ 701 s) (σ 705 s 0) n))))) (E T (nsS σ g s F S (ngT W H (σ 700 s) (σ 300 (p + 4)) many N (σ 701 s) (σ 705 s 0) n) (σ 705 s 0 + n) (if n = 0 then σ 704 s 0 else 0)))) : Ca (d + 4) k 18 [.ref g, .ref p, .ref s, .int (i32 n)] (E T σ) Q := by
  have e := n_selfE (T := T) (σ := σ) (g := g) hs
  have a : ∀ t, t ≠ 704 → t ≠ 705 → nsS σ g s (σ 201 g) (σ 200 g) (σ 701 s) (σ 705 s 0) (σ 704 s 0) t = σ t := by
    intro t h4 h5
    funext o
    unfold nsS
    rw [upA_self, upA_self, upA_self, upA_t h4, upA_t h5]
  have e5 : nsS σ g s (σ 201 g) (σ 200 g) (σ 701 s) (σ 705 s 0) (σ 704 s 0) 705 s = fun _ => σ 705 s 0 := ns5
  have e4 : nsS σ g s (σ 201 g) (σ 200 g) (σ 701 s) (σ 705 s 0) (σ 704 s 0) 704 s = fun _ => σ 704 s 0 := ns4
  rw [← e]
  generalize hτ : nsS σ g s (σ 201 g) (σ 200 g) (σ 701 s) (σ 705 s 0) (σ 704 s 0) = τ at *
  refine c18 (σ := τ) (many := many) (N := N) hg hp hs (geo_t hge (by rw [a 401 (by omega) (by omega)]) (by rw [a 402 (by omega) (by omega)]) (by rw [a 411 (by omega) (by omega)]) (by rw [a 412 (by omega) (by omega)]) (by rw [a 413 (by omega) (by omega)]) (by rw [a 410 (by omega) (by omega)])) h hN (by rw [a 700 (by omega) (by omega)]; exact hkd) (by rw [a 701 (by omega) (by omega)]; exact htk) (by rw [e5]; exact n0) (by rw [e5]; exact n1) (by rw [a 301 (by omega) (by omega)]; exact hm) hm1 (by rw [a 300 (by omega) (by omega)]; exact hlaw) hn (by rw [e5]) (by rw [e4]) ?_
  intro F S
  have hq := hQ F S
  rw [a 700 (by omega) (by omega), a 300 (by omega) (by omega), a 701 (by omega) (by omega), e5, e4]
  have hx : ∀ tk nt tm, nsS τ g s F S tk nt tm = nsS σ g s F S tk nt tm := by
    intro tk nt tm
    rw [← hτ]
    unfold nsS
    rw [upA_self, upA_self, upA_self]
    rw [upA_comm (t := 704) (t' := 201) (by omega), upA_comm (t := 705) (t' := 201) (by omega), upA_comm (t := 704) (t' := 200) (by omega), upA_comm (t := 705) (t' := 200) (by omega), upA_comm (t := 704) (t' := 701) (by omega), upA_comm (t := 705) (t' := 701) (by omega), upA_comm (t := 704) (t' := 705) (by omega), upA_upA, upA_upA]
  rw [hx]
  exact hq
/-- what a told deed leaves of the store; rows of a night's work and of the ways are any -/
theorem c11 {d : Nat} {k W H v : Int} {p s many N : Nat} {T : Tt} {σ : St} {Q : vmO → vmH → Prop} (hp : ob 4 p) (hs : ob 7 s) (hge : geo σ p W H) (h : whOk W H) (hN : (N : Int) = W * H) (hw : 0 ≤ σ 403 p 0 ∧ σ 403 p 0 ≤ 9 ∧ 0 ≤ σ 405 p 0 ∧ σ 405 p 0 < 32) (hS : scK σ s) (hm : σ 301 (p + 4) 0 = many) (hm1 : many ≤ 900) (hlaw : lawG (σ 300 (p + 4)) many) (w0 : 0 ≤ σ 404 p 0) (w1 : σ 404 p 0 ≤ 5) (hat : ∀ w : Nat, (w : Int) < σ 404 p 0 → 0 ≤ σ 702 s w ∧ σ 702 s w < W * H) (hv : why σ p s W H v = 0)
    (hQ1 : v = -1 → ∀ F S, Q (.inl none) (E T (nsS σ 187 s F S (cp (thk (grB W H (σ 700 s) (σ 701 s) (σ 705 s 0) (σ 300 (p + 4)) many) (σ 701 s)) (σ 701 s) N) (σ 705 s 0 + 1) 0)))
    (hQ2 : v ≠ -1 → v < 1000 → Q (.inl none) (E T (gtS σ p s W H (v / 100) (v % 100) N)))
    (hQ3 : 1000 ≤ v → v < 2000 → Q (.inl none) (E T (shr σ s (v % 100) (min 1 (σ 701 s (v % 100))))))
    (hQ4 : 2000 ≤ v → Q (.inl none) (E T (upA (upA σ 700 s (fu (σ 700 s) (v % 100) (v / 100 % 10))) 701 s (fu (σ 701 s) (v % 100) 1)))) : Ca (d + 6) k 11 [.ref 179, .ref p, .ref s, .int (i32 v)] (E T σ) Q := by
  have hp3 := ob_lt hp
  have hs3 := ob_lt hs
  have hd := ob_de
  have hdg := ob_dg
  have hm36 := wh_mul0 h
  obtain ⟨hkd, htk, n0, n1⟩ := id hS
  rw [n11 _ _ _ _ _ _ _ _ _ hd]
  by_cases a1 : v = -1
  · rw [a1]
    simp (disch := (first | assumption | omega | exact Nat.le_of_ble_eq_true rfl | rfl)) only [w11_0, w11_1, w11_2, w11_5, w11_6, w11_9, w11_10, w11_11, w11_14, w11_15, w11_18, w11_19, w11_22, w11_25, w11_26, w11_27, w11_28, w11_29, w11_31, w11_32, w11_33, w11_35, w11_36, w11_39, w11_40, w11_43, w11_44, w11_47, w11_50, w11_51, w11_52, w11_54, w11_55, w11_56, w11_59, w11_62, w11_63, w11_64, w11_66, w11_67, w11_68, w11_70, w11_71, w11_73, w11_74, w11_75, w11_78, Ko_n, Ko_v, vX_i, vX_r, vX_l, vX_j, reduceIte, Int.reduceNeg, not_true]
    rw [← n_selfE (g := 187) hs]
    refine c19 (many := many) (N := N) hdg hp hs hge h hN hkd htk n0 (by omega) hm hm1 hlaw ?_
    intro F S
    simp (disch := (first | assumption | omega | exact Nat.le_of_ble_eq_true rfl | rfl)) only [w11_0, w11_1, w11_2, w11_5, w11_6, w11_9, w11_10, w11_11, w11_14, w11_15, w11_18, w11_19, w11_22, w11_25, w11_26, w11_27, w11_28, w11_29, w11_31, w11_32, w11_33, w11_35, w11_36, w11_39, w11_40, w11_43, w11_44, w11_47, w11_50, w11_51, w11_52, w11_54, w11_55, w11_56, w11_59, w11_62, w11_63, w11_64, w11_66, w11_67, w11_68, w11_70, w11_71, w11_73, w11_74, w11_75, w11_78, Ko_n, Ko_v, vX_i, vX_r, vX_l, vX_j, reduceIte]
    exact hQ1 a1 F S
  · unfold why at hv
    rw [if_neg a1] at hv
    by_cases a2 : v < 0 ∨ 2400 ≤ v
    · rw [if_pos a2] at hv; omega
    rw [if_neg a2] at hv
    by_cases a4 : ¬ v % 100 < W * H
    · rw [if_pos a4] at hv; omega
    rw [if_neg a4] at hv
    have hr := Int.emod_nonneg v (show (100 : Int) ≠ 0 by omega)
    have hw2 : wh2 W H := by
      rcases h with ⟨rfl, rfl⟩ | h
      · omega
      · exact h
    by_cases a5 : v < 1000
    · have hq := hQ2 a1 a5
      have a6 : v / 100 < σ 404 p 0 := by
        rcases Int.lt_or_le (v / 100) (σ 404 p 0) with hx | hx
        · exact hx
        · rw [if_neg (by omega), if_neg (by omega), if_neg (by omega)] at hv
          omega
      have hz := hat (v / 100).toNat (by omega)
      rw [show (((v / 100).toNat : Nat) : Int) = v / 100 by omega] at hz
      simp (disch := (first | assumption | omega | exact Nat.le_of_ble_eq_true rfl | rfl)) only [w11_0, w11_1, w11_2, w11_5, w11_6, w11_9, w11_10, w11_11, w11_14, w11_15, w11_18, w11_19, w11_22, w11_25, w11_26, w11_27, w11_28, w11_29, w11_31, w11_32, w11_33, w11_35, w11_36, w11_39, w11_40, w11_43, w11_44, w11_47, w11_50, w11_51, w11_52, w11_54, w11_55, w11_56, w11_59, w11_62, w11_63, w11_64, w11_66, w11_67, w11_68, w11_70, w11_71, w11_73, w11_74, w11_75, w11_78, Ko_n, Ko_v, vX_i, vX_r, vX_l, vX_j, reduceIte, a1, not_false_eq_true, show ¬ (1000 : Int) ≤ v by omega]
      rw [c12 (N := N) hp hs ⟨hge, hw2, hw.1, hw.2.1, hw.2.2.1, hw.2.2.2⟩ hS hN (by omega) (by omega) hz.1 hz.2 hr (by omega)]
      simp (disch := (first | assumption | omega | exact Nat.le_of_ble_eq_true rfl | rfl)) only [w11_0, w11_1, w11_2, w11_5, w11_6, w11_9, w11_10, w11_11, w11_14, w11_15, w11_18, w11_19, w11_22, w11_25, w11_26, w11_27, w11_28, w11_29, w11_31, w11_32, w11_33, w11_35, w11_36, w11_39, w11_40, w11_43, w11_44, w11_47, w11_50, w11_51, w11_52, w11_54, w11_55, w11_56, w11_59, w11_62, w11_63, w11_64, w11_66, w11_67, w11_68, w11_70, w11_71, w11_73, w11_74, w11_75, w11_78, Ko_n, Ko_v, vX_i, vX_r, vX_l, vX_j, reduceIte]
      exact hq
    · by_cases a7 : v < 2000
      · have hq := hQ3 (by omega) a7
        simp (disch := (first | assumption | omega | exact Nat.le_of_ble_eq_true rfl | rfl)) only [w11_0, w11_1, w11_2, w11_5, w11_6, w11_9, w11_10, w11_11, w11_14, w11_15, w11_18, w11_19, w11_22, w11_25, w11_26, w11_27, w11_28, w11_29, w11_31, w11_32, w11_33, w11_35, w11_36, w11_39, w11_40, w11_43, w11_44, w11_47, w11_50, w11_51, w11_52, w11_54, w11_55, w11_56, w11_59, w11_62, w11_63, w11_64, w11_66, w11_67, w11_68, w11_70, w11_71, w11_73, w11_74, w11_75, w11_78, Ko_n, Ko_v, vX_i, vX_r, vX_l, vX_j, reduceIte, a1, not_false_eq_true, show (1000 : Int) ≤ v by omega, show ¬ (2000 : Int) ≤ v by omega]
        rw [c80 hs htk hr (by omega) (by omega) (by omega)]
        simp (disch := (first | assumption | omega | exact Nat.le_of_ble_eq_true rfl | rfl)) only [w11_0, w11_1, w11_2, w11_5, w11_6, w11_9, w11_10, w11_11, w11_14, w11_15, w11_18, w11_19, w11_22, w11_25, w11_26, w11_27, w11_28, w11_29, w11_31, w11_32, w11_33, w11_35, w11_36, w11_39, w11_40, w11_43, w11_44, w11_47, w11_50, w11_51, w11_52, w11_54, w11_55, w11_56, w11_59, w11_62, w11_63, w11_64, w11_66, w11_67, w11_68, w11_70, w11_71, w11_73, w11_74, w11_75, w11_78, Ko_n, Ko_v, vX_i, vX_r, vX_l, vX_j, reduceIte]
        exact hq
      · have hq := hQ4 (by omega)
        simp (disch := (first | assumption | omega | exact Nat.le_of_ble_eq_true rfl | rfl)) only [w11_0, w11_1, w11_2, w11_5, w11_6, w11_9, w11_10, w11_11, w11_14, w11_15, w11_18, w11_19, w11_22, w11_25, w11_26, w11_27, w11_28, w11_29, w11_31, w11_32, w11_33, w11_35, w11_36, w11_39, w11_40, w11_43, w11_44, w11_47, w11_50, w11_51, w11_52, w11_54, w11_55, w11_56, w11_59, w11_62, w11_63, w11_64, w11_66, w11_67, w11_68, w11_70, w11_71, w11_73, w11_74, w11_75, w11_78, Ko_n, Ko_v, vX_i, vX_r, vX_l, vX_j, reduceIte, a1, not_false_eq_true, show (1000 : Int) ≤ v by omega, show (2000 : Int) ≤ v by omega]
        rw [c79 hs hr (by omega)]
        simp (disch := (first | assumption | omega | exact Nat.le_of_ble_eq_true rfl | rfl)) only [w11_0, w11_1, w11_2, w11_5, w11_6, w11_9, w11_10, w11_11, w11_14, w11_15, w11_18, w11_19, w11_22, w11_25, w11_26, w11_27, w11_28, w11_29, w11_31, w11_32, w11_33, w11_35, w11_36, w11_39, w11_40, w11_43, w11_44, w11_47, w11_50, w11_51, w11_52, w11_54, w11_55, w11_56, w11_59, w11_62, w11_63, w11_64, w11_66, w11_67, w11_68, w11_70, w11_71, w11_73, w11_74, w11_75, w11_78, Ko_n, Ko_v, vX_i, vX_r, vX_l, vX_j, reduceIte]
        exact hq
