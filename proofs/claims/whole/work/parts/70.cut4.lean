/-! ===== Cut: the least ===== -/
/-- how many ways more are found, at most so many -/
def lsR (W H : Int) (op : Int → Bool) (fr to : Int) : Nat → (Int → Bool) → (Int → Int) → (Int → Int) → (Int → Int) → Int
  | 0, _, _, _, _ => 0
  | m + 1, q, al, g, f => if (fnI W H q op al to (fn0 fr g f) 72).1 (2 * to) = -1 then 0 else 1 + lsR W H op fr to m (tvI W H (fnI W H q op al to (fn0 fr g f) 72).1 fr (2 * to, q, al) 72).2.1 (tvI W H (fnI W H q op al to (fn0 fr g f) 72).1 fr (2 * to, q, al) 72).2.2 (fnI W H q op al to (fn0 fr g f) 72).1 (fnI W H q op al to (fn0 fr g f) 72).2.1
theorem ct_to {σ : St} {x y : Ct} {q : Int → Bool} {al : Int → Int} : ctS (toS (ctS σ x) q al) y = toS (ctS σ y) q al := by
  unfold ctS toS
  rw [upA_comm (t := 1) (t' := 3) (by omega), upA_comm (t := 0) (t' := 3) (by omega), upA_comm (t := 4) (t' := 3) (by omega), upA_comm (t := 2) (t' := 3) (by omega), upA_upA,
    upA_comm (t := 1) (t' := 2) (by omega), upA_comm (t := 0) (t' := 2) (by omega), upA_comm (t := 4) (t' := 2) (by omega), upA_upA,
    upA_comm (t := 1) (t' := 4) (by omega), upA_comm (t := 0) (t' := 4) (by omega), upA_upA]
theorem ct_self {T : Tt} {σ : St} {q : Int → Bool} {al : Int → Int} : E T (toS (ctS σ (σ 3 151, σ 2 151, σ 4 151 0)) q al) = E T (toS σ q al) := by
  have hr := ob_cu
  have e1 : toS (ctS σ (σ 3 151, σ 2 151, σ 4 151 0)) q al = upA (toS σ q al) 4 151 fun _ => σ 4 151 0 := by
    unfold ctS toS
    dsimp only
    rw [upA_self, upA_self, upA_comm (t := 4) (t' := 0) (by omega), upA_comm (t := 4) (t' := 1) (by omega)]
  rw [e1]
  have := E_same (T := T) (σ := toS σ q al) (c := 4) (tag := 4) (k := 0) hr rfl (by omega)
  rw [tot (by omega) (by omega)] at this
  exact this
theorem lsR_in {W H fr to : Int} {op : Int → Bool} : ∀ (m : Nat) (q : Int → Bool) (al g f : Int → Int), 0 ≤ lsR W H op fr to m q al g f ∧ lsR W H op fr to m q al g f ≤ m := by
  intro m
  induction m with
  | zero => intro q al g f; simp [lsR]
  | succ m ih =>
    intro q al g f
    simp only [lsR]
    split
    · omega
    · have := ih (tvI W H (fnI W H q op al to (fn0 fr g f) 72).1 fr (2 * to, q, al) 72).2.1 (tvI W H (fnI W H q op al to (fn0 fr g f) 72).1 fr (2 * to, q, al) 72).2.2 (fnI W H q op al to (fn0 fr g f) 72).1 (fnI W H q op al to (fn0 fr g f) 72).2.1
      omega
theorem c1 {d : Nat} {k W H fr to : Int} {p : Nat} {op : Int → Bool} {T : Tt} {σ : St} {Q : vmO → vmH → Prop} (hp : ob 4 p) (hg : geo σ p W H) (h : wh2 W H) (f0 : 0 ≤ fr) (f1 : fr < W * H) (t0 : 0 ≤ to) (t1 : to < W * H)
    (hQ : ∀ x q al, Q (.inl (some (.int (i32 (lsR W H op fr to 4 (fun _ => false) (fil (σ 1 151) 144 0) (σ 3 151) (σ 2 151)))))) (E T (toS (ctS σ x) q al))) : Ca (d + 3) k 1 [.ref 151, .ref p, .long (bs op), .int (i32 fr), .int (i32 to)] (E T σ) Q := by
  have hp3 := ob_lt hp
  have hr := ob_cu
  have hm := wh_mul h
  have hgx : ∀ x q al, geo (toS (ctS σ x) q al) p W H := fun x q al => geo_t hg (by rw [tot (by omega) (by omega), ctt (by omega) (by omega) (by omega)]) (by rw [tot (by omega) (by omega), ctt (by omega) (by omega) (by omega)]) (by rw [tot (by omega) (by omega), ctt (by omega) (by omega) (by omega)]) (by rw [tot (by omega) (by omega), ctt (by omega) (by omega) (by omega)]) (by rw [tot (by omega) (by omega), ctt (by omega) (by omega) (by omega)]) (by rw [tot (by omega) (by omega), ctt (by omega) (by omega) (by omega)])
  have hgc : ∀ x, geo (ctS σ x) p W H := fun x => geo_t hg (ctt (by omega) (by omega) (by omega)) (ctt (by omega) (by omega) (by omega)) (ctt (by omega) (by omega) (by omega)) (ctt (by omega) (by omega) (by omega)) (ctt (by omega) (by omega) (by omega)) (ctt (by omega) (by omega) (by omega))
  obtain ⟨R, hR⟩ : ∃ R, R = lsR W H op fr to 4 (fun _ => false) (fil (σ 1 151) 144 0) (σ 3 151) (σ 2 151) := ⟨_, rfl⟩
  rw [← hR] at hQ
  have loop : ∀ (m w : Nat) (x : Ct) (q : Int → Bool) (al : Int → Int), w + m = 4 → alIn al → (w : Int) + lsR W H op fr to m q al x.1 x.2.1 = R → Wp (d + 3) M_X0_least 16 [.ref 151, .ref p, .long (bs op), vmJ, .int (i32 fr), .int (i32 to), .int (i32 w)] [] (E T (toS (ctS σ x) q al)) Q := by
    intro m
    induction m with
    | zero =>
      intro w x q al hw ha hres
      have hw : w = 4 := by omega
      subst hw
      have hq := hQ x q al
      rw [← hres] at hq
      simp only [lsR, Int.add_zero] at hq
      rw [w1_16]
      simp (disch := (first | assumption | omega | exact Nat.le_of_ble_eq_true rfl | rfl)) only [w1_0, w1_1, w1_2, w1_5, w1_6, w1_9, w1_10, w1_13, w1_14, w1_18, w1_19, w1_22, w1_23, w1_24, w1_25, w1_27, w1_29, w1_32, w1_35, w1_36, w1_37, w1_39, w1_41, w1_44, w1_47, w1_50, w1_52, Ko_n, Ko_v, vX_i, vX_r, vX_l, vX_j, reduceIte, show ((4 : Nat) : Int) = 4 from rfl, Int.le_refl]
      exact hq
    | succ m ih =>
      intro w x q al hw ha hres
      rw [w1_16]
      simp (disch := (first | assumption | omega | exact Nat.le_of_ble_eq_true rfl | rfl)) only [w1_0, w1_1, w1_2, w1_5, w1_6, w1_9, w1_10, w1_13, w1_14, w1_18, w1_19, w1_22, w1_23, w1_24, w1_25, w1_27, w1_29, w1_32, w1_35, w1_36, w1_37, w1_39, w1_41, w1_44, w1_47, w1_50, w1_52, Ko_n, Ko_v, vX_i, vX_r, vX_l, vX_j, reduceIte, show ¬ (4 : Int) ≤ (w : Int) by omega]
      have hpq : i64 (toS (ctS σ x) q al 0 151 0) = bs q := by rw [to0, i64_toInt]
      rw [c2 (σ := toS (ctS σ x) q al) (pq := q) hp (hgx _ _ _) h hpq (by rw [to1]; exact ha) f0 f1 t0 t1, to1, tot (by omega) (by omega), tot (by omega) (by omega), ct3, ct2, ct_to]
      simp only [lsR] at hres
      have hx0 := fn0_in (g := x.1) (f := x.2.1) h f0 f1
      have hin := fnI_in (pq := q) (op := op) (al := al) (to := to) h hx0 72
      have hcl := fnI_clo (pq := q) (op := op) (al := al) (to := to) h hx0 (fn0_clo f0 (by omega)) 72
      generalize fnI W H q op al to (fn0 fr x.1 x.2.1) 72 = y at *
      by_cases hz : y.1 (2 * to) = -1
      · rw [if_pos hz] at hres ⊢
        have hq := hQ y q al
        rw [← hres, Int.add_zero] at hq
        simp (disch := (first | assumption | omega | exact Nat.le_of_ble_eq_true rfl | rfl)) only [w1_0, w1_1, w1_2, w1_5, w1_6, w1_9, w1_10, w1_13, w1_14, w1_18, w1_19, w1_22, w1_23, w1_24, w1_25, w1_27, w1_29, w1_32, w1_35, w1_36, w1_37, w1_39, w1_41, w1_44, w1_47, w1_50, w1_52, Ko_n, Ko_v, vX_i, vX_r, vX_l, vX_j, reduceIte]
        exact hq
      · rw [if_neg hz] at hres ⊢
        simp (disch := (first | assumption | omega | exact Nat.le_of_ble_eq_true rfl | rfl)) only [w1_0, w1_1, w1_2, w1_5, w1_6, w1_9, w1_10, w1_13, w1_14, w1_18, w1_19, w1_22, w1_23, w1_24, w1_25, w1_27, w1_29, w1_32, w1_35, w1_36, w1_37, w1_39, w1_41, w1_44, w1_47, w1_50, w1_52, Ko_n, Ko_v, vX_i, vX_r, vX_l, vX_j, reduceIte, Int.reduceEq]
        rw [c7 (σ := ctS σ y) hp (hgc _) h f0 f1 t0 t1 (by rw [ct3]; exact hin.1) (by rw [ct3]; exact hcl.1) (by rw [ct3]; exact hz) ha, ct3]
        simp (disch := (first | assumption | omega | exact Nat.le_of_ble_eq_true rfl | rfl)) only [w1_0, w1_1, w1_2, w1_5, w1_6, w1_9, w1_10, w1_13, w1_14, w1_18, w1_19, w1_22, w1_23, w1_24, w1_25, w1_27, w1_29, w1_32, w1_35, w1_36, w1_37, w1_39, w1_41, w1_44, w1_47, w1_50, w1_52, Ko_n, Ko_v, vX_i, vX_r, vX_l, vX_j, reduceIte]
        have hti := tvI_in (fr := fr) (x := (2 * to, q, al)) h hin.1 hcl.1 (by show 0 ≤ 2 * to; omega) (by show 2 * to < 2 * (W * H); omega) hz ha 72
        exact ih (w + 1) y _ _ (by omega) hti.2.2.2 (by rw [← hres]; omega)
  rw [n1 _ _ _ _ _ _ _ _ _ _ hr]
  simp (disch := (first | assumption | omega | exact Nat.le_of_ble_eq_true rfl | rfl)) only [w1_0, w1_1, w1_2, w1_5, w1_6, w1_9, w1_10, w1_13, w1_14, w1_18, w1_19, w1_22, w1_23, w1_24, w1_25, w1_27, w1_29, w1_32, w1_35, w1_36, w1_37, w1_39, w1_41, w1_44, w1_47, w1_50, w1_52, Ko_n, Ko_v, vX_i, vX_r, vX_l, vX_j, reduceIte]
  rw [c320 (by omega) (ok_1 151 hr), upA_t (by omega)]
  simp (disch := (first | assumption | omega | exact Nat.le_of_ble_eq_true rfl | rfl)) only [w1_0, w1_1, w1_2, w1_5, w1_6, w1_9, w1_10, w1_13, w1_14, w1_18, w1_19, w1_22, w1_23, w1_24, w1_25, w1_27, w1_29, w1_32, w1_35, w1_36, w1_37, w1_39, w1_41, w1_44, w1_47, w1_50, w1_52, Ko_n, Ko_v, vX_i, vX_r, vX_l, vX_j, reduceIte]
  have key := loop 4 0 (σ 3 151, σ 2 151, σ 4 151 0) (fun _ => false) (fil (σ 1 151) 144 0) (by omega) (fun j j0 j1 => Or.inl (by unfold fil; rw [if_pos ⟨j0, j1⟩])) (by rw [hR]; simp)
  rw [ct_self] at key
  have e0 : toS σ (fun _ => false) (fil (σ 1 151) 144 0) = upA (upA σ 0 151 fun _ => (i64 0).toInt) 1 151 (fil (σ 1 151) ((144 : Nat) : Int) 0) := by
    unfold toS
    rw [bs_none]
    rfl
  rw [e0] at key
  exact key
