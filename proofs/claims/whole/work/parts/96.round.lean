/-! ===== HedgePark: round, bestOrder ===== -/
theorem rdI_cg {lg lg' du du' o : Int → Int} {st : Int} {N : Nat} (hl : lgOk N lg) (hN : N ≤ 4) (ho : ∀ i : Nat, i < N → 0 ≤ o i ∧ o i < N) (h1 : ∀ i e : Int, 0 ≤ i → i ≤ N → 0 ≤ e → e < N → lg (4 * i + e) = lg' (4 * i + e)) (h2 : ∀ e : Int, 0 ≤ e → e < N → du e = du' e) : ∀ n : Nat, n ≤ N → rdI lg du st o n = rdI lg' du' st o n
  | 0, _ => rfl
  | n + 1, hn => by
    have ih := rdI_cg (st := st) hl hN ho h1 h2 n (by omega)
    have hi := rdI_in (du := du) (st := st) hl hN ho n (by omega)
    have hon := ho n (by omega)
    simp only [rdI]
    rw [← ih]
    unfold rdS1
    rw [h1 _ (o n) hi.2.2.2.2.2.2.1 hi.2.2.2.2.2.2.2 hon.1 hon.2, h2 (o n) hon.1 hon.2]
theorem ordN_in {N : Nat} {row : Int} (hN : 0 < N) (i : Nat) : 0 ≤ ordN N row i ∧ ordN N row i < N := dgt_in hN
theorem boI_cg {lg lg' du du' : Int → Int} {st : Int} {N : Nat} (hl : lgOk N lg) (hN : N ≤ 4) (h1 : ∀ i e : Int, 0 ≤ i → i ≤ N → 0 ≤ e → e < N → lg (4 * i + e) = lg' (4 * i + e)) (h2 : ∀ e : Int, 0 ≤ e → e < N → du e = du' e) : ∀ n : Nat, boI lg du st N n = boI lg' du' st N n
  | 0 => rfl
  | n + 1 => by
    have ih := boI_cg (st := st) hl hN h1 h2 n
    simp only [boI]
    rw [ih]
    unfold boS
    rw [rdI_cg (o := ordN N n) (st := st) hl hN (fun i hi => ordN_in (by omega) i) h1 h2 N (Nat.le_refl N)]
theorem boI_le1 {lg du : Int → Int} {st : Int} {N : Nat} (hl : lgOk N lg) (hN : N ≤ 4) {n : Nat} (h : (boI lg du st N n).1 ≤ N ∨ snI N n N = sl 1 N - 1) : (boI lg du st N (n + 1)).1 ≤ N := by
  have hr := rdI_in (du := du) (st := st) hl hN (o := ordN N n) (fun i hi => ordN_in (by omega) i) N (Nat.le_refl N)
  simp only [boI]
  unfold boS
  split
  · exact hr.2.2.2.1
  · rename_i hz
    rcases h with h | h
    · exact h
    · have : ¬ (rdI lg du st (ordN N n) N).2.1 < (boI lg du st N n).1 := fun e => hz ⟨h, Or.inl e⟩
      have := hr.2.2.2.1
      omega
theorem boI_le {lg du : Int → Int} {st : Int} {N r : Nat} (hl : lgOk N lg) (hN : N ≤ 4) (hr : snI N r N = sl 1 N - 1) : ∀ m : Nat, (boI lg du st N (r + 1 + m)).1 ≤ N
  | 0 => boI_le1 hl hN (Or.inr hr)
  | m + 1 => boI_le1 hl hN (Or.inl (boI_le hl hN hr m))
theorem boI_end {lg du : Int → Int} {st : Int} {N : Nat} (hl : lgOk N lg) (hN : N ≤ 4) : (boI lg du st N (N ^ N)).1 ≤ N := by
  have hc : N = 0 ∨ N = 1 ∨ N = 2 ∨ N = 3 ∨ N = 4 := by omega
  rcases hc with rfl | rfl | rfl | rfl | rfl
  · exact boI_le (r := 0) hl hN (by decide) 0
  · exact boI_le (r := 0) hl hN (by decide) 0
  · exact boI_le (r := 1) hl hN (by decide) 2
  · exact boI_le (r := 5) hl hN (by decide) 21
  · exact boI_le (r := 27) hl hN (by decide) 228
/-- legs of a walker's errands, and when they are due -/
def lgW (σ : St) (W H : Int) (N : Nat) (w : Int) : Int → Int := fun j => dD W H (prc σ 3 10 (frB (σ 405 3 0) w)) (fromI (σ 702 10 w) (fun e => σ 407 3 (4 * w + e)) (j / 4)) N (σ 407 3 (4 * w + j % 4))
def duW (σ : St) (w : Int) : Int → Int := fun e => σ 408 3 (4 * w + e)
/-- rounds are prepared -/
theorem prpZ {d n N : Nat} {k W H w : Int} {T : Tt} {σ : St} {Q : vmO → vmH → Prop} (hW : hpW σ W H N) (hE : hpE σ W H) (w0 : 0 ≤ w) (w1 : w < σ 404 3 0) (hn : σ 406 3 w = n)
    (hQ : ∀ τ, sg σ τ → τ 604 167 0 = n → τ 605 167 0 = σ 704 10 0 → lgOk n (τ 601 167) → (∀ i e : Int, 0 ≤ i → i ≤ n → 0 ≤ e → e < n → τ 601 167 (4 * i + e) = lgW σ W H N w (4 * i + e)) → (∀ e : Int, 0 ≤ e → e < n → τ 602 167 e = duW σ w e) → (∀ e : Int, 0 ≤ e → e < n → 0 ≤ τ 602 167 e ∧ τ 602 167 e ≤ 999) → Q (.inl none) (E T τ)) : Ca (d + 5) k 67 [.ref 167, .ref 3, .ref 10, .int (i32 w)] (E T σ) Q := by
  have h3 := ob_p3; have h10 := ob_n10
  have hNw := hW.2.2.1
  obtain ⟨h, w5, a0, a1⟩ := hpW_w hW w0 w1
  have hm := wh_mul h
  obtain ⟨hP, hS⟩ := hpW_k hW w0 w1
  have he := hE w.toNat (by omega)
  rw [show ((w.toNat : Nat) : Int) = w by omega] at he
  refine c67 (N := N) h3 h10 hP hS hNw w0 w5 a0 a1 hn (by omega) (fun e he2 => (he.2.2 e (by omega)).1) ?_
  intro C X L hL
  have eq1 : ∀ i e : Int, 0 ≤ i → i ≤ n → 0 ≤ e → e < n → L (4 * i + e) = lgW σ W H N w (4 * i + e) := by
    intro i e i0 i1 e0 e1
    have := hL i.toNat e.toNat (by omega) (by omega)
    rw [show ((i.toNat : Nat) : Int) = i by omega, show ((e.toNat : Nat) : Int) = e by omega] at this
    rw [this]
    unfold lgW
    rw [show (4 * i + e) / 4 = i by omega, show (4 * i + e) % 4 = e by omega]
  refine hQ _ ?_ ?_ ?_ ?_ ?_ ?_ ?_
  · unfold prS wyD wyS
    exact sg_u (sg_u (sg_u (sg_u (sg_u (sg_u (sg_u (sg_u (sg_u sg_r (by omega)) (by omega)) (by omega)) (by omega)) (by omega)) (by omega)) (by omega)) (by omega)) (by omega)
  · rw [upA_t (by omega), prt (by omega) (by omega) (by omega) (by omega) (by omega), upA_t (by omega), upA_t (by omega), upA_s]
  · rw [upA_t (by omega), prt (by omega) (by omega) (by omega) (by omega) (by omega), upA_t (by omega), upA_s]
  · rw [upA_t (by omega), pr1]
    intro i e i0 i1 e0 e1
    rw [eq1 i e i0 i1 e0 e1]
    unfold lgW
    rw [show (4 * i + e) / 4 = i by omega, show (4 * i + e) % 4 = e by omega]
    have hce := (he.2.2 e.toNat (by omega)).1
    rw [show ((e.toNat : Nat) : Int) = e by omega] at hce
    rcases dD_bnd (z := fromI (σ 702 10 w) (fun e => σ 407 3 (4 * w + e)) i) h (prc_cs (b := frB (σ 405 3 0) w) hW) hNw hce.1 (by omega) with hb | hb
    · left; omega
    · right; exact hb
  · rw [upA_t (by omega), pr1]
    exact eq1
  · intro e e0 e1
    rw [upA_s, cp_lt e0 e1]
    rfl
  · intro e e0 e1
    rw [upA_s, cp_lt e0 e1]
    have := (he.2.2 e.toNat (by omega)).2
    rw [show ((e.toNat : Nat) : Int) = e by omega] at this
    exact this
def rnA (x : Rd) (wh : Int) : Int := if wh = 0 then x.1 else if wh = 1 then x.2.2.1 else x.2.1
theorem c139 {d n N : Nat} {k w wh W H : Int} {T : Tt} {σ : St} {Q : vmO → vmH → Prop} (hW : hpW σ W H N) (hE : hpE σ W H) (s0 : 0 ≤ σ 704 10 0) (s1 : σ 704 10 0 < 1000000000) (x0 : -2147483648 ≤ w) (x1 : w < 2147483648) (y0 : -2147483648 ≤ wh) (y1 : wh < 2147483648) (hn : (0 ≤ w ∧ w < σ 404 3 0) → σ 406 3 w = n)
    (hQ1 : ¬ (0 ≤ w ∧ w < σ 404 3 0) → Q (.inr 0) (E (thr T) σ))
    (hQ2 : 0 ≤ w → w < σ 404 3 0 → ¬ (0 ≤ wh ∧ wh ≤ 2) → Q (.inr 1) (E (thr T) σ))
    (hQ3 : 0 ≤ w → w < σ 404 3 0 → 0 ≤ wh → wh ≤ 2 → ∀ τ, sg σ τ → Q (.inl (some (.int (i32 (rnA (rdI (lgW σ W H N w) (duW σ w) (σ 704 10 0) (fun i => i) n) wh))))) (E T τ)) : Ca (d + 10) k 139 [.ref 0, .int (i32 w), .int (i32 wh)] (E T σ) Q := by
  have h0 := ob_hp; have h2 := ob_st; have h3 := ob_p3; have h10 := ob_n10; have hro := ob_ro
  have v0 := hW.2.2.2.2.2.1
  have v1 := hW.2.2.2.2.2.2.1
  rw [n139 _ _ _ _ _ _ _ _ h0]
  simp (disch := (first | assumption | omega | exact Nat.le_of_ble_eq_true rfl | rfl)) only [w139_0, w139_1, w139_2, w139_5, w139_6, w139_9, w139_10, w139_11, w139_14, w139_15, w139_18, w139_19, w139_22, w139_23, w139_26, w139_27, w139_30, w139_33, w139_34, w139_37, w139_40, w139_41, w139_44, w139_45, w139_48, w139_51, w139_52, w139_80, w139_81, w139_84, w139_87, w139_88, w139_89, w139_92, w139_95, w139_96, w139_97, w139_100, w139_103, Ko_n, Ko_v, vX_i, vX_r, vX_l, vX_j, reduceIte]
  rw [c164 v0 v1 x0 x1]
  by_cases hv : 0 ≤ w ∧ w < σ 404 3 0
  · rw [if_pos hv]
    have hn := hn hv
    obtain ⟨w0, w1⟩ := hv
    have he := hE w.toNat (by omega)
    rw [show ((w.toNat : Nat) : Int) = w by omega] at he
    by_cases hd : 0 ≤ wh ∧ wh ≤ 2
    · have hq := hQ3 w0 w1 hd.1 hd.2
      unfold rnA at hq
      simp (disch := (first | assumption | omega | exact Nat.le_of_ble_eq_true rfl | rfl)) only [w139_0, w139_1, w139_2, w139_5, w139_6, w139_9, w139_10, w139_11, w139_14, w139_15, w139_18, w139_19, w139_22, w139_23, w139_26, w139_27, w139_30, w139_33, w139_34, w139_37, w139_40, w139_41, w139_44, w139_45, w139_48, w139_51, w139_52, w139_80, w139_81, w139_84, w139_87, w139_88, w139_89, w139_92, w139_95, w139_96, w139_97, w139_100, w139_103, Ko_n, Ko_v, vX_i, vX_r, vX_l, vX_j, reduceIte, Nat.reduceAdd, show ¬ wh < 0 by omega, show ¬ 2 < wh by omega]
      rw [c169 (by omega) (Or.inr rfl), if_neg (by omega)]
      simp (disch := (first | assumption | omega | exact Nat.le_of_ble_eq_true rfl | rfl)) only [w139_0, w139_1, w139_2, w139_5, w139_6, w139_9, w139_10, w139_11, w139_14, w139_15, w139_18, w139_19, w139_22, w139_23, w139_26, w139_27, w139_30, w139_33, w139_34, w139_37, w139_40, w139_41, w139_44, w139_45, w139_48, w139_51, w139_52, w139_80, w139_81, w139_84, w139_87, w139_88, w139_89, w139_92, w139_95, w139_96, w139_97, w139_100, w139_103, Ko_n, Ko_v, vX_i, vX_r, vX_l, vX_j, reduceIte, Nat.reduceAdd]
      refine prpZ hW hE w0 w1 hn ?_
      intro τ hs t4 t5 tl te td tr
      simp (disch := (first | assumption | omega | exact Nat.le_of_ble_eq_true rfl | rfl)) only [w139_0, w139_1, w139_2, w139_5, w139_6, w139_9, w139_10, w139_11, w139_14, w139_15, w139_18, w139_19, w139_22, w139_23, w139_26, w139_27, w139_30, w139_33, w139_34, w139_37, w139_40, w139_41, w139_44, w139_45, w139_48, w139_51, w139_52, w139_80, w139_81, w139_84, w139_87, w139_88, w139_89, w139_92, w139_95, w139_96, w139_97, w139_100, w139_103, Ko_n, Ko_v, vX_i, vX_r, vX_l, vX_j, reduceIte, Nat.reduceAdd]
      rw [c68 t4 (by omega) tl tr (by omega) (by omega)]
      have ecg : rdI (τ 601 167) (τ 602 167) (τ 605 167 0) (cp (fun i => i) (τ 603 167) n) n = rdI (lgW σ W H N w) (duW σ w) (σ 704 10 0) (fun i => i) n := by
        rw [t5, rdI_congr (o' := fun i => i) (N := n) (fun i hi => cp_lt (by omega) (by omega)) n (Nat.le_refl n)]
        exact rdI_cg tl (by omega) (fun i hi => ⟨by omega, by omega⟩) te td n (Nat.le_refl n)
      rw [ecg]
      have hsg : ∀ O c l f, sg σ (rgS (upA τ 603 167 O) c l f) := fun O c l f => by
        unfold rgS
        exact sg_u (sg_u (sg_u (sg_u hs (by omega)) (by omega)) (by omega)) (by omega)
      have hsw : wh = 0 ∨ wh = 1 ∨ wh = 2 := by omega
      rcases hsw with rfl | rfl | rfl
      · simp (disch := (first | assumption | omega | exact Nat.le_of_ble_eq_true rfl | rfl)) only [w139_0, w139_1, w139_2, w139_5, w139_6, w139_9, w139_10, w139_11, w139_14, w139_15, w139_18, w139_19, w139_22, w139_23, w139_26, w139_27, w139_30, w139_33, w139_34, w139_37, w139_40, w139_41, w139_44, w139_45, w139_48, w139_51, w139_52, w139_80, w139_81, w139_84, w139_87, w139_88, w139_89, w139_92, w139_95, w139_96, w139_97, w139_100, w139_103, Ko_n, Ko_v, vX_i, vX_r, vX_l, vX_j, reduceIte, Nat.reduceAdd, vmSwitch, Int.reduceEq, rg6, rg7, rg8]
        exact hq _ (hsg _ _ _ _)
      · simp (disch := (first | assumption | omega | exact Nat.le_of_ble_eq_true rfl | rfl)) only [w139_0, w139_1, w139_2, w139_5, w139_6, w139_9, w139_10, w139_11, w139_14, w139_15, w139_18, w139_19, w139_22, w139_23, w139_26, w139_27, w139_30, w139_33, w139_34, w139_37, w139_40, w139_41, w139_44, w139_45, w139_48, w139_51, w139_52, w139_80, w139_81, w139_84, w139_87, w139_88, w139_89, w139_92, w139_95, w139_96, w139_97, w139_100, w139_103, Ko_n, Ko_v, vX_i, vX_r, vX_l, vX_j, reduceIte, Nat.reduceAdd, vmSwitch, Int.reduceEq, rg6, rg7, rg8]
        exact hq _ (hsg _ _ _ _)
      · simp (disch := (first | assumption | omega | exact Nat.le_of_ble_eq_true rfl | rfl)) only [w139_0, w139_1, w139_2, w139_5, w139_6, w139_9, w139_10, w139_11, w139_14, w139_15, w139_18, w139_19, w139_22, w139_23, w139_26, w139_27, w139_30, w139_33, w139_34, w139_37, w139_40, w139_41, w139_44, w139_45, w139_48, w139_51, w139_52, w139_80, w139_81, w139_84, w139_87, w139_88, w139_89, w139_92, w139_95, w139_96, w139_97, w139_100, w139_103, Ko_n, Ko_v, vX_i, vX_r, vX_l, vX_j, reduceIte, Nat.reduceAdd, vmSwitch, Int.reduceEq, rg6, rg7, rg8]
        exact hq _ (hsg _ _ _ _)
    · have hq := hQ2 w0 w1 hd
      by_cases d2 : wh < 0
      · simp (disch := (first | assumption | omega | exact Nat.le_of_ble_eq_true rfl | rfl)) only [w139_0, w139_1, w139_2, w139_5, w139_6, w139_9, w139_10, w139_11, w139_14, w139_15, w139_18, w139_19, w139_22, w139_23, w139_26, w139_27, w139_30, w139_33, w139_34, w139_37, w139_40, w139_41, w139_44, w139_45, w139_48, w139_51, w139_52, w139_80, w139_81, w139_84, w139_87, w139_88, w139_89, w139_92, w139_95, w139_96, w139_97, w139_100, w139_103, Ko_n, Ko_v, vX_i, vX_r, vX_l, vX_j, reduceIte, Nat.reduceAdd, d2]
        rw [c169 (by omega) (Or.inl rfl), if_pos rfl, Ko_x rfl]
        exact hq
      · simp (disch := (first | assumption | omega | exact Nat.le_of_ble_eq_true rfl | rfl)) only [w139_0, w139_1, w139_2, w139_5, w139_6, w139_9, w139_10, w139_11, w139_14, w139_15, w139_18, w139_19, w139_22, w139_23, w139_26, w139_27, w139_30, w139_33, w139_34, w139_37, w139_40, w139_41, w139_44, w139_45, w139_48, w139_51, w139_52, w139_80, w139_81, w139_84, w139_87, w139_88, w139_89, w139_92, w139_95, w139_96, w139_97, w139_100, w139_103, Ko_n, Ko_v, vX_i, vX_r, vX_l, vX_j, reduceIte, Nat.reduceAdd, d2, show 2 < wh by omega]
        rw [c169 (by omega) (Or.inl rfl), if_pos rfl, Ko_x rfl]
        exact hq
  · rw [if_neg hv, Ko_x rfl]
    exact hQ1 hv
def boV (wh : Int) : Prop := wh = 0 ∨ wh = 1 ∨ (10 ≤ wh ∧ wh ≤ 13)
def boA (x : Bo) (n : Nat) (wh : Int) : Int := if wh = 0 then x.1 else if wh = 1 then x.2.1 else if wh - 10 < n then x.2.2 (wh - 10) else -1
theorem c140 {d n N : Nat} {k w wh W H : Int} {T : Tt} {σ : St} {Q : vmO → vmH → Prop} (hW : hpW σ W H N) (hE : hpE σ W H) (s0 : 0 ≤ σ 704 10 0) (s1 : σ 704 10 0 < 1000000000) (x0 : -2147483648 ≤ w) (x1 : w < 2147483648) (y0 : -2147483648 ≤ wh) (y1 : wh < 2147483648) (hn : (0 ≤ w ∧ w < σ 404 3 0) → σ 406 3 w = n)
    (hQ1 : ¬ (0 ≤ w ∧ w < σ 404 3 0) → Q (.inr 0) (E (thr T) σ))
    (hQ2 : 0 ≤ w → w < σ 404 3 0 → ¬ boV wh → Q (.inr 1) (E (thr T) σ))
    (hQ3 : 0 ≤ w → w < σ 404 3 0 → boV wh → ∀ τ, sg σ τ → Q (.inl (some (.int (i32 (boA (boI (lgW σ W H N w) (duW σ w) (σ 704 10 0) n (n ^ n)) n wh))))) (E T τ)) : Ca (d + 10) k 140 [.ref 0, .int (i32 w), .int (i32 wh)] (E T σ) Q := by
  have h0 := ob_hp; have h2 := ob_st; have h3 := ob_p3; have h10 := ob_n10; have hro := ob_ro
  have v0 := hW.2.2.2.2.2.1
  have v1 := hW.2.2.2.2.2.2.1
  rw [n140 _ _ _ _ _ _ _ _ h0]
  simp (disch := (first | assumption | omega | exact Nat.le_of_ble_eq_true rfl | rfl)) only [w140_0, w140_1, w140_2, w140_5, w140_6, w140_9, w140_10, w140_11, w140_14, w140_15, w140_17, w140_20, w140_21, w140_23, w140_26, w140_27, w140_30, w140_31, w140_34, w140_35, w140_38, w140_39, w140_42, w140_45, w140_46, w140_49, w140_52, w140_53, w140_56, w140_57, w140_60, w140_63, w140_64, w140_67, w140_68, w140_71, w140_74, w140_75, w140_76, w140_77, w140_80, w140_81, w140_84, w140_87, w140_88, w140_89, w140_91, w140_92, w140_93, w140_94, w140_95, w140_98, w140_101, w140_104, w140_105, w140_106, w140_109, w140_110, w140_113, w140_116, w140_117, w140_118, w140_121, w140_122, Ko_n, Ko_v, vX_i, vX_r, vX_l, vX_j, reduceIte]
  rw [c164 v0 v1 x0 x1]
  by_cases hv : 0 ≤ w ∧ w < σ 404 3 0
  · rw [if_pos hv]
    have hn := hn hv
    obtain ⟨w0, w1⟩ := hv
    have he := hE w.toNat (by omega)
    rw [show ((w.toNat : Nat) : Int) = w by omega] at he
    by_cases hd : boV wh
    · have hq := hQ3 w0 w1 hd
      unfold boA at hq
      have go : ∀ l3, Wp (d + 10) M_X11_bestOrder 34 [.ref 0, .int (i32 w), .int (i32 wh), l3] [] (E T σ) Q := by
        intro l3
        simp (disch := (first | assumption | omega | exact Nat.le_of_ble_eq_true rfl | rfl)) only [w140_0, w140_1, w140_2, w140_5, w140_6, w140_9, w140_10, w140_11, w140_14, w140_15, w140_17, w140_20, w140_21, w140_23, w140_26, w140_27, w140_30, w140_31, w140_34, w140_35, w140_38, w140_39, w140_42, w140_45, w140_46, w140_49, w140_52, w140_53, w140_56, w140_57, w140_60, w140_63, w140_64, w140_67, w140_68, w140_71, w140_74, w140_75, w140_76, w140_77, w140_80, w140_81, w140_84, w140_87, w140_88, w140_89, w140_91, w140_92, w140_93, w140_94, w140_95, w140_98, w140_101, w140_104, w140_105, w140_106, w140_109, w140_110, w140_113, w140_116, w140_117, w140_118, w140_121, w140_122, Ko_n, Ko_v, vX_i, vX_r, vX_l, vX_j, reduceIte, Nat.reduceAdd]
        refine prpZ hW hE w0 w1 hn ?_
        intro τ hs t4 t5 tl te td tr
        simp (disch := (first | assumption | omega | exact Nat.le_of_ble_eq_true rfl | rfl)) only [w140_0, w140_1, w140_2, w140_5, w140_6, w140_9, w140_10, w140_11, w140_14, w140_15, w140_17, w140_20, w140_21, w140_23, w140_26, w140_27, w140_30, w140_31, w140_34, w140_35, w140_38, w140_39, w140_42, w140_45, w140_46, w140_49, w140_52, w140_53, w140_56, w140_57, w140_60, w140_63, w140_64, w140_67, w140_68, w140_71, w140_74, w140_75, w140_76, w140_77, w140_80, w140_81, w140_84, w140_87, w140_88, w140_89, w140_91, w140_92, w140_93, w140_94, w140_95, w140_98, w140_101, w140_104, w140_105, w140_106, w140_109, w140_110, w140_113, w140_116, w140_117, w140_118, w140_121, w140_122, Ko_n, Ko_v, vX_i, vX_r, vX_l, vX_j, reduceIte, Nat.reduceAdd]
        refine c70 t4 (by omega) tl tr (by omega) (by omega) ?_
        have ecg : boI (τ 601 167) (τ 602 167) (τ 605 167 0) n (n ^ n) = boI (lgW σ W H N w) (duW σ w) (σ 704 10 0) n (n ^ n) := by
          rw [t5]
          exact boI_cg tl (by omega) te td (n ^ n)
        have hle := boI_end (du := τ 602 167) (st := τ 605 167 0) tl (by omega)
        rw [ecg] at hle ⊢
        intro O B c l f hB
        have hB := hB hle
        have hsg : sg σ (bbS τ O B c l f (boI (lgW σ W H N w) (duW σ w) (σ 704 10 0) n (n ^ n)).1 (boI (lgW σ W H N w) (duW σ w) (σ 704 10 0) n (n ^ n)).2.1) := by
          unfold bbS rgS
          exact sg_u (sg_u (sg_u (sg_u (sg_u (sg_u (sg_u hs (by omega)) (by omega)) (by omega)) (by omega)) (by omega)) (by omega)) (by omega)
        have hq := hq _ hsg
        rcases hd with rfl | rfl | hd
        · simp (disch := (first | assumption | omega | exact Nat.le_of_ble_eq_true rfl | rfl)) only [w140_0, w140_1, w140_2, w140_5, w140_6, w140_9, w140_10, w140_11, w140_14, w140_15, w140_17, w140_20, w140_21, w140_23, w140_26, w140_27, w140_30, w140_31, w140_34, w140_35, w140_38, w140_39, w140_42, w140_45, w140_46, w140_49, w140_52, w140_53, w140_56, w140_57, w140_60, w140_63, w140_64, w140_67, w140_68, w140_71, w140_74, w140_75, w140_76, w140_77, w140_80, w140_81, w140_84, w140_87, w140_88, w140_89, w140_91, w140_92, w140_93, w140_94, w140_95, w140_98, w140_101, w140_104, w140_105, w140_106, w140_109, w140_110, w140_113, w140_116, w140_117, w140_118, w140_121, w140_122, Ko_n, Ko_v, vX_i, vX_r, vX_l, vX_j, reduceIte, Nat.reduceAdd, Int.reduceEq, not_true_eq_false, bb11]
          exact hq
        · simp (disch := (first | assumption | omega | exact Nat.le_of_ble_eq_true rfl | rfl)) only [w140_0, w140_1, w140_2, w140_5, w140_6, w140_9, w140_10, w140_11, w140_14, w140_15, w140_17, w140_20, w140_21, w140_23, w140_26, w140_27, w140_30, w140_31, w140_34, w140_35, w140_38, w140_39, w140_42, w140_45, w140_46, w140_49, w140_52, w140_53, w140_56, w140_57, w140_60, w140_63, w140_64, w140_67, w140_68, w140_71, w140_74, w140_75, w140_76, w140_77, w140_80, w140_81, w140_84, w140_87, w140_88, w140_89, w140_91, w140_92, w140_93, w140_94, w140_95, w140_98, w140_101, w140_104, w140_105, w140_106, w140_109, w140_110, w140_113, w140_116, w140_117, w140_118, w140_121, w140_122, Ko_n, Ko_v, vX_i, vX_r, vX_l, vX_j, reduceIte, Nat.reduceAdd, Int.reduceEq, not_false_eq_true, not_true_eq_false, bb10]
          exact hq
        · have e6 : bbS τ O B c l f (boI (lgW σ W H N w) (duW σ w) (σ 704 10 0) n (n ^ n)).1 (boI (lgW σ W H N w) (duW σ w) (σ 704 10 0) n (n ^ n)).2.1 406 3 = σ 406 3 := hsg 406 3 (by omega)
          rw [if_neg (by omega), if_neg (by omega)] at hq
          by_cases hb : wh - 10 < (n : Int)
          · have hBi := hB (wh - 10).toNat (by omega)
            rw [show (((wh - 10).toNat : Nat) : Int) = wh - 10 by omega] at hBi
            rw [if_pos hb, ← hBi] at hq
            simp (disch := (first | assumption | omega | exact Nat.le_of_ble_eq_true rfl | rfl)) only [w140_0, w140_1, w140_2, w140_5, w140_6, w140_9, w140_10, w140_11, w140_14, w140_15, w140_17, w140_20, w140_21, w140_23, w140_26, w140_27, w140_30, w140_31, w140_34, w140_35, w140_38, w140_39, w140_42, w140_45, w140_46, w140_49, w140_52, w140_53, w140_56, w140_57, w140_60, w140_63, w140_64, w140_67, w140_68, w140_71, w140_74, w140_75, w140_76, w140_77, w140_80, w140_81, w140_84, w140_87, w140_88, w140_89, w140_91, w140_92, w140_93, w140_94, w140_95, w140_98, w140_101, w140_104, w140_105, w140_106, w140_109, w140_110, w140_113, w140_116, w140_117, w140_118, w140_121, w140_122, Ko_n, Ko_v, vX_i, vX_r, vX_l, vX_j, reduceIte, Nat.reduceAdd, show ¬ wh = 0 by omega, show ¬ wh = 1 by omega, not_false_eq_true, e6, hn, show ¬ (n : Int) ≤ wh - 10 by omega, bb9]
            exact hq
          · rw [if_neg hb] at hq
            simp (disch := (first | assumption | omega | exact Nat.le_of_ble_eq_true rfl | rfl)) only [w140_0, w140_1, w140_2, w140_5, w140_6, w140_9, w140_10, w140_11, w140_14, w140_15, w140_17, w140_20, w140_21, w140_23, w140_26, w140_27, w140_30, w140_31, w140_34, w140_35, w140_38, w140_39, w140_42, w140_45, w140_46, w140_49, w140_52, w140_53, w140_56, w140_57, w140_60, w140_63, w140_64, w140_67, w140_68, w140_71, w140_74, w140_75, w140_76, w140_77, w140_80, w140_81, w140_84, w140_87, w140_88, w140_89, w140_91, w140_92, w140_93, w140_94, w140_95, w140_98, w140_101, w140_104, w140_105, w140_106, w140_109, w140_110, w140_113, w140_116, w140_117, w140_118, w140_121, w140_122, Ko_n, Ko_v, vX_i, vX_r, vX_l, vX_j, reduceIte, Nat.reduceAdd, show ¬ wh = 0 by omega, show ¬ wh = 1 by omega, not_false_eq_true, e6, hn, show (n : Int) ≤ wh - 10 by omega]
            exact hq
      have hs : wh = 0 ∨ wh = 1 ∨ (10 ≤ wh ∧ wh ≤ 13) := hd
      rcases hs with hs | hs | hs
      · simp (disch := (first | assumption | omega | exact Nat.le_of_ble_eq_true rfl | rfl)) only [w140_0, w140_1, w140_2, w140_5, w140_6, w140_9, w140_10, w140_11, w140_14, w140_15, w140_17, w140_20, w140_21, w140_23, w140_26, w140_27, w140_30, w140_31, w140_34, w140_35, w140_38, w140_39, w140_42, w140_45, w140_46, w140_49, w140_52, w140_53, w140_56, w140_57, w140_60, w140_63, w140_64, w140_67, w140_68, w140_71, w140_74, w140_75, w140_76, w140_77, w140_80, w140_81, w140_84, w140_87, w140_88, w140_89, w140_91, w140_92, w140_93, w140_94, w140_95, w140_98, w140_101, w140_104, w140_105, w140_106, w140_109, w140_110, w140_113, w140_116, w140_117, w140_118, w140_121, w140_122, Ko_n, Ko_v, vX_i, vX_r, vX_l, vX_j, reduceIte, Nat.reduceAdd, hs, Int.reduceEq]
        rw [c169 (by omega) (Or.inr rfl), if_neg (by omega), Ko_n, ← hs]
        exact go _
      · simp (disch := (first | assumption | omega | exact Nat.le_of_ble_eq_true rfl | rfl)) only [w140_0, w140_1, w140_2, w140_5, w140_6, w140_9, w140_10, w140_11, w140_14, w140_15, w140_17, w140_20, w140_21, w140_23, w140_26, w140_27, w140_30, w140_31, w140_34, w140_35, w140_38, w140_39, w140_42, w140_45, w140_46, w140_49, w140_52, w140_53, w140_56, w140_57, w140_60, w140_63, w140_64, w140_67, w140_68, w140_71, w140_74, w140_75, w140_76, w140_77, w140_80, w140_81, w140_84, w140_87, w140_88, w140_89, w140_91, w140_92, w140_93, w140_94, w140_95, w140_98, w140_101, w140_104, w140_105, w140_106, w140_109, w140_110, w140_113, w140_116, w140_117, w140_118, w140_121, w140_122, Ko_n, Ko_v, vX_i, vX_r, vX_l, vX_j, reduceIte, Nat.reduceAdd, hs, Int.reduceEq]
        rw [c169 (by omega) (Or.inr rfl), if_neg (by omega), Ko_n, ← hs]
        exact go _
      · simp (disch := (first | assumption | omega | exact Nat.le_of_ble_eq_true rfl | rfl)) only [w140_0, w140_1, w140_2, w140_5, w140_6, w140_9, w140_10, w140_11, w140_14, w140_15, w140_17, w140_20, w140_21, w140_23, w140_26, w140_27, w140_30, w140_31, w140_34, w140_35, w140_38, w140_39, w140_42, w140_45, w140_46, w140_49, w140_52, w140_53, w140_56, w140_57, w140_60, w140_63, w140_64, w140_67, w140_68, w140_71, w140_74, w140_75, w140_76, w140_77, w140_80, w140_81, w140_84, w140_87, w140_88, w140_89, w140_91, w140_92, w140_93, w140_94, w140_95, w140_98, w140_101, w140_104, w140_105, w140_106, w140_109, w140_110, w140_113, w140_116, w140_117, w140_118, w140_121, w140_122, Ko_n, Ko_v, vX_i, vX_r, vX_l, vX_j, reduceIte, Nat.reduceAdd, show ¬ wh = 0 by omega, show ¬ wh = 1 by omega, show ¬ wh < 10 by omega, show ¬ 14 ≤ wh by omega]
        rw [c169 (by omega) (Or.inr rfl), if_neg (by omega), Ko_n]
        exact go _
    · have hq := hQ2 w0 w1 hd
      have hs : wh ≠ 0 ∧ wh ≠ 1 ∧ (wh < 10 ∨ 14 ≤ wh) := by unfold boV at hd; omega
      obtain ⟨e0, e1, hs⟩ := hs
      by_cases d2 : wh < 10
      · simp (disch := (first | assumption | omega | exact Nat.le_of_ble_eq_true rfl | rfl)) only [w140_0, w140_1, w140_2, w140_5, w140_6, w140_9, w140_10, w140_11, w140_14, w140_15, w140_17, w140_20, w140_21, w140_23, w140_26, w140_27, w140_30, w140_31, w140_34, w140_35, w140_38, w140_39, w140_42, w140_45, w140_46, w140_49, w140_52, w140_53, w140_56, w140_57, w140_60, w140_63, w140_64, w140_67, w140_68, w140_71, w140_74, w140_75, w140_76, w140_77, w140_80, w140_81, w140_84, w140_87, w140_88, w140_89, w140_91, w140_92, w140_93, w140_94, w140_95, w140_98, w140_101, w140_104, w140_105, w140_106, w140_109, w140_110, w140_113, w140_116, w140_117, w140_118, w140_121, w140_122, Ko_n, Ko_v, vX_i, vX_r, vX_l, vX_j, reduceIte, Nat.reduceAdd, e0, e1, d2]
        rw [c169 (by omega) (Or.inl rfl), if_pos rfl, Ko_x rfl]
        exact hq
      · simp (disch := (first | assumption | omega | exact Nat.le_of_ble_eq_true rfl | rfl)) only [w140_0, w140_1, w140_2, w140_5, w140_6, w140_9, w140_10, w140_11, w140_14, w140_15, w140_17, w140_20, w140_21, w140_23, w140_26, w140_27, w140_30, w140_31, w140_34, w140_35, w140_38, w140_39, w140_42, w140_45, w140_46, w140_49, w140_52, w140_53, w140_56, w140_57, w140_60, w140_63, w140_64, w140_67, w140_68, w140_71, w140_74, w140_75, w140_76, w140_77, w140_80, w140_81, w140_84, w140_87, w140_88, w140_89, w140_91, w140_92, w140_93, w140_94, w140_95, w140_98, w140_101, w140_104, w140_105, w140_106, w140_109, w140_110, w140_113, w140_116, w140_117, w140_118, w140_121, w140_122, Ko_n, Ko_v, vX_i, vX_r, vX_l, vX_j, reduceIte, Nat.reduceAdd, e0, e1, d2, show 14 ≤ wh by omega]
        rw [c169 (by omega) (Or.inl rfl), if_pos rfl, Ko_x rfl]
        exact hq
  · rw [if_neg hv, Ko_x rfl]
    exact hQ1 hv
