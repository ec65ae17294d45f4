/-! ===== deeds (by program): clip, plant, nights, undo, perform, decade ===== -/
theorem clN_ok2 {K : Int → Int} {B z n : Int} (h : okK K B) (hz : 0 ≤ z ∧ z < K 1 * K 2) (hh : hgB (kdK K 7) z = true) (n1 : 1 ≤ n) : okK (clK (kpK K) z (min n (K (43 + z)))) (B + 300000) := by
  have hm := wh_mul0 h.1.1.1
  have lo := kpK_lo h.1.1.2.2.2.2.1.1 h.1.1.2.2.2.2.1.2
  have kp := kp_ok h
  have kc := (kV_c h.1.2.1 (z := z) hz.1 (by omega)).2
  have hk : hgB (kdK (kpK K) 7) z = true := by
    have a := of_decide_eq_true hh
    refine decide_eq_true ⟨a.1, a.2.1, ?_, ?_⟩
    · show kpK K (7 + z) ≠ 0
      rw [lo _ (by omega)]; exact a.2.2.1
    · show kpK K (7 + z) ≠ 4
      rw [lo _ (by omega)]; exact a.2.2.2
  exact st_ok kp (by omega) (clK_st hz.1 (by omega)) (clK_V kp.1.1 hz.1 (by rw [lo 1 (by omega), lo 2 (by omega)]; exact hz.2) hk (by omega) (by rw [lo _ (by omega)]; omega) (by omega) kp.1.2.1)
theorem ptN_ok {K : Int → Int} {B z n : Int} (h : okK K B) (hz : 0 ≤ z ∧ z < K 1 * K 2) (hn : 1 ≤ n ∧ n ≤ 3) : okK (ptK2 (kpK K) z n) (B + 300000) := by
  have hm := wh_mul0 h.1.1.1
  have lo := kpK_lo h.1.1.2.2.2.2.1.1 h.1.1.2.2.2.2.1.2
  have kp := kp_ok h
  exact okK_le (by omega) (st_ok kp (Int.le_refl B) (ptK2_st hz.1 (by omega)) (ptK2_V kp.1.1 hz.1 (by rw [lo 1 (by omega), lo 2 (by omega)]; exact hz.2) hn.1 hn.2 kp.1.2.1))
theorem ngN_ok {K : Int → Int} {B n : Int} (h : okK K B) (hn : 1 ≤ n ∧ n ≤ 99) : okK (ngI (kpK K) n.toNat) (B + 300000) := by
  have kp := kp_ok h
  exact okK_le (by omega) (st_ok kp (show B ≤ B + (n.toNat : Nat) by omega) (ngI_st n.toNat) (ngI_V kp.1.1 kp.1.2.1 n.toNat))
theorem unN_ok {K : Int → Int} {B n : Int} (h : okK K B) (hn : 1 ≤ n ∧ n ≤ K 6) : okK (unK K n) (B + 300000) := by
  refine okK_le (show B ≤ B + 300000 by omega) ⟨unK_V h.1 hn.1 hn.2, lwV_cg (fun j hj => ?_) h.2.1, rw_cg (fun j hj => ?_) h.2.2⟩ <;>
  · unfold unK
    rw [if_neg (by omega), if_neg (by omega)]
theorem pfN_V {f K : Int → Int} {B m : Int} (hv : kV K B) (hm : 0 ≤ m ∧ m ≤ 40) : kV (pfK f m.toNat K 0).2 (B + 300000) := kV_le (by omega) (pfK_V m.toNat K 0 B hv)
theorem dcN_V {K : Int → Int} {B sd tm : Int} (hv : kV K B) (ht : 1 ≤ tm ∧ tm ≤ 30) : kV (dcK tm.toNat K sd 0).2 (B + 300000) := kV_le (by omega) (dcK_V tm.toNat K sd 0 B hv)
theorem l326 {d : Nat} {B z n : Int} {K : Int → Int} {T : Tt} {σ : St} {Q : vmO → vmH → Prop} (hI : Inv B σ) (hB : B < 790000000) (hK : σ 1200 382 = K) (lo0 : -2147483648 ≤ z) (hi0 : z < 2147483648) (lo1 : -2147483648 ≤ n) (hi1 : n < 2147483648) (hQ : ∀ kk T' τ, dM σ τ kk ((0 ≤ z ∧ z < K 1 * K 2)) (hgB (kdK K 7) z = true) ((1 ≤ n ∧ n ≤ 60)) (clK (kpK K) z (min n (K (43 + z)))) (i64 ((i32 (K (43 + z) - min n (K (43 + z)))).toInt)) → (T' = T ∨ T' = thr T) → Q (.inl (some (.int (i32 kk)))) (E T' τ)) : Ca (d + 40) 4 326 [.ref 0, .int (i32 z), .int (i32 n), .ref 405] (E T σ) Q := by
  have ht : tie σ 2 K := by rw [← hK]; exact hI.1.1
  have ok : okK K B := by rw [← hK]; exact hI.1.2
  have hv := ok.1
  have hT := hI.2.2.2.1
  rw [n326 _ _ _ _ _ _ _ _ (by omega)]
  simp (disch := (first | assumption | omega | exact Nat.le_of_ble_eq_true rfl | rfl)) only [w326_0, w326_1, w326_2, w326_3, w326_4, w326_5, Ko_n, Ko_v, vX_i, vX_r, vX_l, vX_j, reduceIte]
  refine c122K ht hv (by omega) lo0 hi0 lo1 hi1 (fun h => ?_) (fun a b h => ?_) (fun a b c h => ?_) (fun a b c x y τ hs tk => ?_)
  · rw [Ko_c (v := 1) rfl rfl]; exact hQ 1 _ _ (dM_1 h) (Or.inr rfl)
  · rw [Ko_c (v := 2) rfl rfl]; exact hQ 2 _ _ (dM_2 ⟨a, b⟩ (by rw [h]; exact Bool.false_ne_true)) (Or.inr rfl)
  · rw [Ko_c (v := 3) rfl rfl]; exact hQ 3 _ _ (dM_3 ⟨a, b⟩ c h) (Or.inr rfl)
  · have k3 := (clN_ok2 ok ⟨a, b⟩ c x).1.1.2.1.2
    have hb1 := Int32.le_toInt (i32 (K (43 + z) - min n (K (43 + z))))
    have hb2 := Int32.toInt_lt (i32 (K (43 + z) - min n (K (43 + z))))
    rw [← i32_toInt (i32 (K (43 + z) - min n (K (43 + z))))]
    generalize (i32 (K (43 + z) - min n (K (43 + z)))).toInt = u at hb1 hb2 hQ ⊢
    simp (disch := (first | assumption | omega | exact Nat.le_of_ble_eq_true rfl | rfl)) only [w326_8, w326_9, w326_10, w326_25, w326_26, Ko_n, Ko_v, vX_i, vX_r, vX_l, vX_j, reduceIte]
    exact hQ 0 _ _ (dM_0 ⟨a, b⟩ c ⟨x, y⟩ hs tk k3) (Or.inl rfl)
theorem r245 {d : Nat} {k B kk z n : Int} {K : Int → Int} {T : Tt} {σ τ : St} {Q : vmO → vmH → Prop} (hI : Inv B σ) (hB : B < 790000000) (hK : σ 1200 382 = K) (lo0 : -2147483648 ≤ z) (hi0 : z < 2147483648) (lo1 : -2147483648 ≤ n) (hi1 : n < 2147483648) (hm : dM σ τ kk ((0 ≤ z ∧ z < K 1 * K 2)) (hgB (kdK K 7) z = true) ((1 ≤ n ∧ n ≤ 60)) (clK (kpK K) z (min n (K (43 + z)))) (i64 ((i32 (K (43 + z) - min n (K (43 + z)))).toInt))) (hQ : ∀ b ρ, rM ρ B kk (i64 ((i32 b).toInt)) → Q (.inl (some (.int (i32 b)))) (E T ρ)) : Ca (d + 40) k 245 [.ref 382, .int (i32 z), .int (i32 n)] (E T τ) Q := by
  have ok : okK K B := by rw [← hK]; exact hI.1.2
  have hv := ok.1
  have hT := hI.2.2.2.1
  have e : τ 1200 382 = K := by rw [dM_K hm 1200 382 (by omega) (by omega)]; exact hK

  refine c245 e hv lo0 hi0 lo1 hi1 (fun u hu ρ f g1 g2 => hQ _ _ (rD_1 hI hm (by rcases hu with hu | hu | hu; exact Or.inl hu; exact Or.inr (Or.inl ⟨hu.1, by rw [hu.2.1]; exact Bool.false_ne_true, hu.2.2⟩); exact Or.inr (Or.inr hu)) f (g1.trans hK.symm) g2)) (fun a b c x y ρ f g1 g2 => hQ _ _ (rD_0 hI hm ⟨a, b⟩ c ⟨x, y⟩ f g1 (clN_ok2 ok ⟨a, b⟩ c x) g2))
theorem l327 {d : Nat} {B z n : Int} {K : Int → Int} {T : Tt} {σ : St} {Q : vmO → vmH → Prop} (hI : Inv B σ) (hB : B < 790000000) (hK : σ 1200 382 = K) (lo0 : -2147483648 ≤ z) (hi0 : z < 2147483648) (lo1 : -2147483648 ≤ n) (hi1 : n < 2147483648) (hQ : ∀ kk T' τ, dM σ τ kk ((0 ≤ z ∧ z < K 1 * K 2)) ((1 ≤ n ∧ n ≤ 3)) ((K (7 + z) = 0 ∧ waK K z = 0)) (ptK2 (kpK K) z n) (i64 ((i32 (cnt (hgB (kdK (ptK2 (kpK K) z n) 7)) 64)).toInt)) → (T' = T ∨ T' = thr T) → Q (.inl (some (.int (i32 kk)))) (E T' τ)) : Ca (d + 40) 4 327 [.ref 0, .int (i32 z), .int (i32 n), .ref 405] (E T σ) Q := by
  have ht : tie σ 2 K := by rw [← hK]; exact hI.1.1
  have ok : okK K B := by rw [← hK]; exact hI.1.2
  have hv := ok.1
  have hT := hI.2.2.2.1
  rw [n327 _ _ _ _ _ _ _ _ (by omega)]
  simp (disch := (first | assumption | omega | exact Nat.le_of_ble_eq_true rfl | rfl)) only [w327_0, w327_1, w327_2, w327_3, w327_4, w327_5, Ko_n, Ko_v, vX_i, vX_r, vX_l, vX_j, reduceIte]
  refine c123K ht hv (by omega) lo0 hi0 lo1 hi1 (fun h => ?_) (fun a b h => ?_) (fun a b c x h => ?_) (fun a b c x y y2 τ hs tk => ?_)
  · rw [Ko_c (v := 1) rfl rfl]; exact hQ 1 _ _ (dM_1 h) (Or.inr rfl)
  · rw [Ko_c (v := 2) rfl rfl]; exact hQ 2 _ _ (dM_2 ⟨a, b⟩ h) (Or.inr rfl)
  · rw [Ko_c (v := 3) rfl rfl]; exact hQ 3 _ _ (dM_3 ⟨a, b⟩ ⟨c, x⟩ h) (Or.inr rfl)
  · have k3 := (ptN_ok ok ⟨a, b⟩ ⟨c, x⟩).1.1.2.1.2
    have hb1 := Int32.le_toInt (i32 (cnt (hgB (kdK (ptK2 (kpK K) z n) 7)) 64))
    have hb2 := Int32.toInt_lt (i32 (cnt (hgB (kdK (ptK2 (kpK K) z n) 7)) 64))
    rw [← i32_toInt (i32 (cnt (hgB (kdK (ptK2 (kpK K) z n) 7)) 64))]
    generalize (i32 (cnt (hgB (kdK (ptK2 (kpK K) z n) 7)) 64)).toInt = u at hb1 hb2 hQ ⊢
    simp (disch := (first | assumption | omega | exact Nat.le_of_ble_eq_true rfl | rfl)) only [w327_8, w327_9, w327_10, w327_25, w327_26, Ko_n, Ko_v, vX_i, vX_r, vX_l, vX_j, reduceIte]
    exact hQ 0 _ _ (dM_0 ⟨a, b⟩ ⟨c, x⟩ ⟨y, y2⟩ hs tk k3) (Or.inl rfl)
theorem r248 {d : Nat} {k B kk z n : Int} {K : Int → Int} {T : Tt} {σ τ : St} {Q : vmO → vmH → Prop} (hI : Inv B σ) (hB : B < 790000000) (hK : σ 1200 382 = K) (lo0 : -2147483648 ≤ z) (hi0 : z < 2147483648) (lo1 : -2147483648 ≤ n) (hi1 : n < 2147483648) (hm : dM σ τ kk ((0 ≤ z ∧ z < K 1 * K 2)) ((1 ≤ n ∧ n ≤ 3)) ((K (7 + z) = 0 ∧ waK K z = 0)) (ptK2 (kpK K) z n) (i64 ((i32 (cnt (hgB (kdK (ptK2 (kpK K) z n) 7)) 64)).toInt))) (hQ : ∀ b ρ, rM ρ B kk (i64 ((i32 b).toInt)) → Q (.inl (some (.int (i32 b)))) (E T ρ)) : Ca (d + 40) k 248 [.ref 382, .int (i32 z), .int (i32 n)] (E T τ) Q := by
  have ok : okK K B := by rw [← hK]; exact hI.1.2
  have hv := ok.1
  have hT := hI.2.2.2.1
  have e : τ 1200 382 = K := by rw [dM_K hm 1200 382 (by omega) (by omega)]; exact hK

  refine c248 e hv lo0 hi0 lo1 hi1 (fun u hu ρ f g1 g2 => hQ _ _ (rD_1 hI hm hu f (g1.trans hK.symm) g2)) (fun a b c x y y2 ρ f g1 g2 => hQ _ _ (rD_0 hI hm ⟨a, b⟩ ⟨c, x⟩ ⟨y, y2⟩ f g1 (ptN_ok ok ⟨a, b⟩ ⟨c, x⟩) g2))
theorem l328 {d : Nat} {B n : Int} {K : Int → Int} {T : Tt} {σ : St} {Q : vmO → vmH → Prop} (hI : Inv B σ) (hB : B < 790000000) (hK : σ 1200 382 = K) (lo0 : -2147483648 ≤ n) (hi0 : n < 2147483648) (hQ : ∀ kk T' τ, dM σ τ kk ((1 ≤ n ∧ n ≤ 99)) (True) (True) (ngI (kpK K) n.toNat) (i64 ((i32 (ngS (kpK K) n.toNat)).toInt)) → (T' = T ∨ T' = thr T) → Q (.inl (some (.int (i32 kk)))) (E T' τ)) : Ca (d + 40) 4 328 [.ref 0, .int (i32 n), .ref 405] (E T σ) Q := by
  have ht : tie σ 2 K := by rw [← hK]; exact hI.1.1
  have ok : okK K B := by rw [← hK]; exact hI.1.2
  have hv := ok.1
  have hT := hI.2.2.2.1
  rw [n328 _ _ _ _ _ _ _ (by omega)]
  simp (disch := (first | assumption | omega | exact Nat.le_of_ble_eq_true rfl | rfl)) only [w328_0, w328_1, w328_2, w328_3, w328_4, Ko_n, Ko_v, vX_i, vX_r, vX_l, vX_j, reduceIte]
  refine c124K ht hv (by omega) lo0 hi0 (fun h => ?_) (fun a b τ hs tk => ?_)
  · rw [Ko_c (v := 1) rfl rfl]; exact hQ 1 _ _ (dM_1 h) (Or.inr rfl)
  · have k3 := (ngN_ok ok ⟨a, b⟩).1.1.2.1.2
    have hb1 := Int32.le_toInt (i32 (ngS (kpK K) n.toNat))
    have hb2 := Int32.toInt_lt (i32 (ngS (kpK K) n.toNat))
    rw [← i32_toInt (i32 (ngS (kpK K) n.toNat))]
    generalize (i32 (ngS (kpK K) n.toNat)).toInt = u at hb1 hb2 hQ ⊢
    simp (disch := (first | assumption | omega | exact Nat.le_of_ble_eq_true rfl | rfl)) only [w328_7, w328_8, w328_9, w328_15, w328_16, Ko_n, Ko_v, vX_i, vX_r, vX_l, vX_j, reduceIte]
    exact hQ 0 _ _ (dM_0 ⟨a, b⟩ trivial trivial hs tk k3) (Or.inl rfl)
theorem r249 {d : Nat} {k B kk n : Int} {K : Int → Int} {T : Tt} {σ τ : St} {Q : vmO → vmH → Prop} (hI : Inv B σ) (hB : B < 790000000) (hK : σ 1200 382 = K) (lo0 : -2147483648 ≤ n) (hi0 : n < 2147483648) (hm : dM σ τ kk ((1 ≤ n ∧ n ≤ 99)) (True) (True) (ngI (kpK K) n.toNat) (i64 ((i32 (ngS (kpK K) n.toNat)).toInt))) (hQ : ∀ b ρ, rM ρ B kk (i64 ((i32 b).toInt)) → Q (.inl (some (.int (i32 b)))) (E T ρ)) : Ca (d + 40) k 249 [.ref 382, .int (i32 n)] (E T τ) Q := by
  have ok : okK K B := by rw [← hK]; exact hI.1.2
  have hv := ok.1
  have hT := hI.2.2.2.1
  have e : τ 1200 382 = K := by rw [dM_K hm 1200 382 (by omega) (by omega)]; exact hK

  refine c249 e hv (by omega) ok.2.1 ok.2.2 lo0 hi0 (fun h ρ f g1 g2 => hQ _ _ (rD_1 hI hm (Or.inl ⟨h, rfl⟩) f (g1.trans hK.symm) g2)) (fun a b ρ f g1 g2 => hQ _ _ (rD_0 hI hm ⟨a, b⟩ trivial trivial f g1 (ngN_ok ok ⟨a, b⟩) g2))
theorem l329 {d : Nat} {B n : Int} {K : Int → Int} {T : Tt} {σ : St} {Q : vmO → vmH → Prop} (hI : Inv B σ) (hB : B < 790000000) (hK : σ 1200 382 = K) (lo0 : -2147483648 ≤ n) (hi0 : n < 2147483648) (hQ : ∀ kk T' τ, dM σ τ kk ((1 ≤ n ∧ n ≤ K 6)) (True) (True) (unK K n) (i64 ((i32 (K 6 - n)).toInt)) → (T' = T ∨ T' = thr T) → Q (.inl (some (.int (i32 kk)))) (E T' τ)) : Ca (d + 40) 4 329 [.ref 0, .int (i32 n), .ref 405] (E T σ) Q := by
  have ht : tie σ 2 K := by rw [← hK]; exact hI.1.1
  have ok : okK K B := by rw [← hK]; exact hI.1.2
  have hv := ok.1
  have hT := hI.2.2.2.1
  rw [n329 _ _ _ _ _ _ _ (by omega)]
  simp (disch := (first | assumption | omega | exact Nat.le_of_ble_eq_true rfl | rfl)) only [w329_0, w329_1, w329_2, w329_3, w329_4, Ko_n, Ko_v, vX_i, vX_r, vX_l, vX_j, reduceIte]
  refine c125K ht hv lo0 hi0 (fun h => ?_) (fun a b τ hs tk => ?_)
  · rw [Ko_c (v := 1) rfl rfl]; exact hQ 1 _ _ (dM_1 h) (Or.inr rfl)
  · have k3 := (unN_ok ok ⟨a, b⟩).1.1.2.1.2
    have hb1 := Int32.le_toInt (i32 (K 6 - n))
    have hb2 := Int32.toInt_lt (i32 (K 6 - n))
    rw [← i32_toInt (i32 (K 6 - n))]
    generalize (i32 (K 6 - n)).toInt = u at hb1 hb2 hQ ⊢
    simp (disch := (first | assumption | omega | exact Nat.le_of_ble_eq_true rfl | rfl)) only [w329_7, w329_8, w329_9, w329_15, w329_16, Ko_n, Ko_v, vX_i, vX_r, vX_l, vX_j, reduceIte]
    exact hQ 0 _ _ (dM_0 ⟨a, b⟩ trivial trivial hs tk k3) (Or.inl rfl)
theorem r250 {d : Nat} {k B kk n : Int} {K : Int → Int} {T : Tt} {σ τ : St} {Q : vmO → vmH → Prop} (hI : Inv B σ) (hB : B < 790000000) (hK : σ 1200 382 = K) (lo0 : -2147483648 ≤ n) (hi0 : n < 2147483648) (hm : dM σ τ kk ((1 ≤ n ∧ n ≤ K 6)) (True) (True) (unK K n) (i64 ((i32 (K 6 - n)).toInt))) (hQ : ∀ b ρ, rM ρ B kk (i64 ((i32 b).toInt)) → Q (.inl (some (.int (i32 b)))) (E T ρ)) : Ca (d + 40) k 250 [.ref 382, .int (i32 n)] (E T τ) Q := by
  have ok : okK K B := by rw [← hK]; exact hI.1.2
  have hv := ok.1
  have hT := hI.2.2.2.1
  have e : τ 1200 382 = K := by rw [dM_K hm 1200 382 (by omega) (by omega)]; exact hK

  refine c250 e hv lo0 hi0 (fun h ρ f g1 g2 => hQ _ _ (rD_1 hI hm (Or.inl ⟨h, rfl⟩) f (g1.trans hK.symm) g2)) (fun a b ρ f g1 g2 => hQ _ _ (rD_0 hI hm ⟨a, b⟩ trivial trivial f g1 (unN_ok ok ⟨a, b⟩) g2))
theorem l331 {d : Nat} {B t : Int} {K : Int → Int} {T : Tt} {σ : St} {Q : vmO → vmH → Prop} (hI : Inv B σ) (hB : B < 790000000) (hK : σ 1200 382 = K) (lo0 : -2147483648 ≤ t) (hi0 : t < 2147483648) (hQ : ∀ kk T' τ, dM σ τ kk ((0 ≤ t ∧ t < 4)) (σ 1108 0 t ≠ -1) (True) ((pfK (tyF σ t) (σ 1109 0 t).toNat K 0).2) (i64 ((i32 ((pfK (tyF σ t) (σ 1109 0 t).toNat K 0).1)).toInt)) → (T' = T ∨ T' = thr T) → Q (.inl (some (.int (i32 kk)))) (E T' τ)) : Ca (d + 40) 4 331 [.ref 0, .int (i32 t), .ref 405] (E T σ) Q := by
  have ht : tie σ 2 K := by rw [← hK]; exact hI.1.1
  have ok : okK K B := by rw [← hK]; exact hI.1.2
  have hv := ok.1
  have hT := hI.2.2.2.1
  rw [n331 _ _ _ _ _ _ _ (by omega)]
  simp (disch := (first | assumption | omega | exact Nat.le_of_ble_eq_true rfl | rfl)) only [w331_0, w331_1, w331_2, w331_3, w331_4, Ko_n, Ko_v, vX_i, vX_r, vX_l, vX_j, reduceIte]
  refine c127K hT.1 ht hv (by omega) lo0 hi0 (fun h => ?_) (fun a b h => ?_) (fun a b c τ hs tk => ?_)
  · rw [Ko_c (v := 1) rfl rfl]; exact hQ 1 _ _ (dM_1 h) (Or.inr rfl)
  · rw [Ko_c (v := 2) rfl rfl]; exact hQ 2 _ _ (dM_2 ⟨a, b⟩ (fun x => x h)) (Or.inr rfl)
  · have k3 := (pfN_V (f := tyF σ t) hv (hT.1 t a b).2.2).1.2.1.2
    have hb1 := Int32.le_toInt (i32 ((pfK (tyF σ t) (σ 1109 0 t).toNat K 0).1))
    have hb2 := Int32.toInt_lt (i32 ((pfK (tyF σ t) (σ 1109 0 t).toNat K 0).1))
    rw [← i32_toInt (i32 ((pfK (tyF σ t) (σ 1109 0 t).toNat K 0).1))]
    generalize (i32 ((pfK (tyF σ t) (σ 1109 0 t).toNat K 0).1)).toInt = u at hb1 hb2 hQ ⊢
    simp (disch := (first | assumption | omega | exact Nat.le_of_ble_eq_true rfl | rfl)) only [w331_7, w331_8, w331_9, w331_18, w331_19, Ko_n, Ko_v, vX_i, vX_r, vX_l, vX_j, reduceIte]
    exact hQ 0 _ _ (dM_0 ⟨a, b⟩ c trivial hs tk k3) (Or.inl rfl)
theorem r255 {d : Nat} {k B kk t : Int} {K : Int → Int} {T : Tt} {σ τ : St} {Q : vmO → vmH → Prop} (hI : Inv B σ) (hB : B < 790000000) (hK : σ 1200 382 = K) (lo0 : -2147483648 ≤ t) (hi0 : t < 2147483648) (hm : dM σ τ kk ((0 ≤ t ∧ t < 4)) (σ 1108 0 t ≠ -1) (True) ((pfK (tyF σ t) (σ 1109 0 t).toNat K 0).2) (i64 ((i32 ((pfK (tyF σ t) (σ 1109 0 t).toNat K 0).1)).toInt))) (hQ : ∀ b ρ, rM ρ B kk (i64 ((i32 b).toInt)) → Q (.inl (some (.int (i32 b)))) (E T ρ)) : Ca (d + 40) k 255 [.ref 382, .int (i32 t)] (E T τ) Q := by
  have ok : okK K B := by rw [← hK]; exact hI.1.2
  have hv := ok.1
  have hT := hI.2.2.2.1
  have e : τ 1200 382 = K := by rw [dM_K hm 1200 382 (by omega) (by omega)]; exact hK
  have e8 : τ 1237 382 = σ 1108 0 := by rw [dM_K hm 1237 382 (by omega) (by omega)]; exact hT.2.2.1.symm
  have e9 : τ 1238 382 = σ 1109 0 := by rw [dM_K hm 1238 382 (by omega) (by omega)]; exact hT.2.2.2.symm
  have e7 : τ 1239 382 = σ 1107 0 := by rw [dM_K hm 1239 382 (by omega) (by omega)]; exact hT.2.1.symm
  have fE : tyR τ t = tyF σ t := by unfold tyR tyF; rw [e7]
  have hsR : ∀ j, 0 ≤ j → j < 4 → -1 ≤ τ 1237 382 j ∧ τ 1237 382 j ≤ 3 := fun j j0 j1 => by rw [e8]; exact ⟨(hT.1 j j0 j1).1, (hT.1 j j0 j1).2.1⟩
  have hmR : ∀ j, 0 ≤ j → j < 4 → 0 ≤ τ 1238 382 j ∧ τ 1238 382 j ≤ 40 := fun j j0 j1 => by rw [e9]; exact (hT.1 j j0 j1).2.2
  refine c255 e hv (by omega) ok.2.1 ok.2.2 hsR hmR lo0 hi0 (fun u u0 hu ρ f g1 g2 => hQ _ _ (rD_1 hI hm (by
    unfold tfR at hu
    rw [e8] at hu
    by_cases a : 0 ≤ t ∧ t < 4
    · rw [if_pos a] at hu
      by_cases b : σ 1108 0 t = -1
      · rw [if_pos b] at hu; exact Or.inr (Or.inl ⟨a, fun x => x b, hu⟩)
      · rw [if_neg b] at hu; exact absurd hu u0
    · rw [if_neg a] at hu; exact Or.inl ⟨a, hu⟩) f (g1.trans hK.symm) g2)) (fun a b c ρ f g1 g2 l1 l2 => hQ _ _ ?_)
  rw [e8] at c
  rw [fE, e9] at g1 l1 l2 ⊢
  exact rD_0 hI hm ⟨a, b⟩ c trivial f g1 ⟨pfN_V hv (hT.1 t a b).2.2, l1, l2⟩ g2
theorem l332 {d : Nat} {B sd tm : Int} {K : Int → Int} {T : Tt} {σ : St} {Q : vmO → vmH → Prop} (hI : Inv B σ) (hB : B < 790000000) (hK : σ 1200 382 = K) (lo1 : -2147483648 ≤ tm) (hi1 : tm < 2147483648) (hQ : ∀ kk T' τ, dM σ τ kk ((1 ≤ tm ∧ tm ≤ 30)) (K 1 * K 2 ≠ 0) (True) ((dcK tm.toNat K sd 0).2) (i64 ((i32 ((dcK tm.toNat K sd 0).1)).toInt)) → (T' = T ∨ T' = thr T) → Q (.inl (some (.int (i32 kk)))) (E T' τ)) : Ca (d + 40) 4 332 [.ref 0, .int (i32 sd), .int (i32 tm), .ref 405] (E T σ) Q := by
  have ht : tie σ 2 K := by rw [← hK]; exact hI.1.1
  have ok : okK K B := by rw [← hK]; exact hI.1.2
  have hv := ok.1
  have hT := hI.2.2.2.1
  rw [n332 _ _ _ _ _ _ _ _ (by omega)]
  simp (disch := (first | assumption | omega | exact Nat.le_of_ble_eq_true rfl | rfl)) only [w332_0, w332_1, w332_2, w332_3, w332_4, w332_5, Ko_n, Ko_v, vX_i, vX_r, vX_l, vX_j, reduceIte]
  refine c129K ht hv (by omega) lo1 hi1 (fun h => ?_) (fun a b h => ?_) (fun a b c τ hs tk => ?_)
  · rw [Ko_c (v := 1) rfl rfl]; exact hQ 1 _ _ (dM_1 h) (Or.inr rfl)
  · rw [Ko_c (v := 2) rfl rfl]; exact hQ 2 _ _ (dM_2 ⟨a, b⟩ (fun x => x h)) (Or.inr rfl)
  · have k3 := (dcN_V (sd := sd) hv ⟨a, b⟩).1.2.1.2
    have hb1 := Int32.le_toInt (i32 ((dcK tm.toNat K sd 0).1))
    have hb2 := Int32.toInt_lt (i32 ((dcK tm.toNat K sd 0).1))
    rw [← i32_toInt (i32 ((dcK tm.toNat K sd 0).1))]
    generalize (i32 ((dcK tm.toNat K sd 0).1)).toInt = u at hb1 hb2 hQ ⊢
    simp (disch := (first | assumption | omega | exact Nat.le_of_ble_eq_true rfl | rfl)) only [w332_8, w332_9, w332_10, w332_21, w332_22, Ko_n, Ko_v, vX_i, vX_r, vX_l, vX_j, reduceIte]
    exact hQ 0 _ _ (dM_0 ⟨a, b⟩ c trivial hs tk k3) (Or.inl rfl)
theorem r257 {d : Nat} {k B kk sd tm : Int} {K : Int → Int} {T : Tt} {σ τ : St} {Q : vmO → vmH → Prop} (hI : Inv B σ) (hB : B < 790000000) (hK : σ 1200 382 = K) (lo1 : -2147483648 ≤ tm) (hi1 : tm < 2147483648) (hm : dM σ τ kk ((1 ≤ tm ∧ tm ≤ 30)) (K 1 * K 2 ≠ 0) (True) ((dcK tm.toNat K sd 0).2) (i64 ((i32 ((dcK tm.toNat K sd 0).1)).toInt))) (hQ : ∀ b ρ, rM ρ B kk (i64 ((i32 b).toInt)) → Q (.inl (some (.int (i32 b)))) (E T ρ)) : Ca (d + 40) k 257 [.ref 382, .int (i32 sd), .int (i32 tm)] (E T τ) Q := by
  have ok : okK K B := by rw [← hK]; exact hI.1.2
  have hv := ok.1
  have hT := hI.2.2.2.1
  have e : τ 1200 382 = K := by rw [dM_K hm 1200 382 (by omega) (by omega)]; exact hK

  refine c257 e hv (by omega) ok.2.1 ok.2.2 lo1 hi1 (fun u hu ρ f g1 g2 => hQ _ _ (rD_1 hI hm (by rcases hu with hu | hu; exact Or.inl hu; exact Or.inr (Or.inl ⟨hu.1, fun x => x hu.2.1, hu.2.2⟩)) f (g1.trans hK.symm) g2)) (fun a b c ρ f g1 g2 l1 l2 => hQ _ _ (rD_0 hI hm ⟨a, b⟩ c trivial f g1 ⟨dcN_V hv ⟨a, b⟩, l1, l2⟩ g2))
