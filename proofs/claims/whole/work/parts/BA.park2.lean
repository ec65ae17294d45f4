/-! ===== the reference's park: the whole ===== -/
theorem E_sm {T : Tt} {X : St} {a ci c tag k : Nat} {v : Int} (hs : ob ci a) (hf : (FD ci)[c]? = some (k, tag)) (hk : k ≠ 2) (h : X tag a 0 = v) : E T (upA X tag a fun _ => v) = E T X := by
  rw [← h]
  exact E_same hs hf hk
theorem pS_E {T : Tt} {τ : St} : E T (pS τ (τ 1212 382 0, τ 1213 382 0, τ 1209 382 0, τ 1208 382 0, τ 1210 382 0, τ 1211 382 0, τ 1216 382 0, τ 1201 382)) = E T τ := by
  unfold pS
  have h0 := ob_md
  generalize hX : upA (upA (upA (upA (upA (upA (upA τ 1212 382 (fun _ => pB (τ 1212 382 0, τ 1213 382 0, τ 1209 382 0, τ 1208 382 0, τ 1210 382 0, τ 1211 382 0, τ 1216 382 0, τ 1201 382))) 1213 382 (fun _ => pP (τ 1212 382 0, τ 1213 382 0, τ 1209 382 0, τ 1208 382 0, τ 1210 382 0, τ 1211 382 0, τ 1216 382 0, τ 1201 382))) 1209 382 (fun _ => pG (τ 1212 382 0, τ 1213 382 0, τ 1209 382 0, τ 1208 382 0, τ 1210 382 0, τ 1211 382 0, τ 1216 382 0, τ 1201 382))) 1208 382 (fun _ => pH (τ 1212 382 0, τ 1213 382 0, τ 1209 382 0, τ 1208 382 0, τ 1210 382 0, τ 1211 382 0, τ 1216 382 0, τ 1201 382))) 1210 382 (fun _ => pT (τ 1212 382 0, τ 1213 382 0, τ 1209 382 0, τ 1208 382 0, τ 1210 382 0, τ 1211 382 0, τ 1216 382 0, τ 1201 382))) 1211 382 (fun _ => pV (τ 1212 382 0, τ 1213 382 0, τ 1209 382 0, τ 1208 382 0, τ 1210 382 0, τ 1211 382 0, τ 1216 382 0, τ 1201 382))) 1216 382 (fun _ => pD (τ 1212 382 0, τ 1213 382 0, τ 1209 382 0, τ 1208 382 0, τ 1210 382 0, τ 1211 382 0, τ 1216 382 0, τ 1201 382)) = X
  have e : X 1201 382 = τ 1201 382 := by
    rw [← hX, upA_t (by omega), upA_t (by omega), upA_t (by omega), upA_t (by omega), upA_t (by omega), upA_t (by omega), upA_t (by omega)]
  show E T (upA X 1201 382 (τ 1201 382)) = E T τ
  rw [← e, upA_self, ← hX]
  simp only [pB_, pP_, pG_, pH_, pT_, pV_, pD_]
  rw [E_sm (ci := 12) (c := 16) (k := 0) h0 rfl (by omega) (by simp only [upA_t (show (1216 : Nat) ≠ 1211 by omega), upA_t (show (1216 : Nat) ≠ 1210 by omega), upA_t (show (1216 : Nat) ≠ 1208 by omega), upA_t (show (1216 : Nat) ≠ 1209 by omega), upA_t (show (1216 : Nat) ≠ 1213 by omega), upA_t (show (1216 : Nat) ≠ 1212 by omega)])]
  rw [E_sm (ci := 12) (c := 11) (k := 0) h0 rfl (by omega) (by simp only [upA_t (show (1211 : Nat) ≠ 1210 by omega), upA_t (show (1211 : Nat) ≠ 1208 by omega), upA_t (show (1211 : Nat) ≠ 1209 by omega), upA_t (show (1211 : Nat) ≠ 1213 by omega), upA_t (show (1211 : Nat) ≠ 1212 by omega)])]
  rw [E_sm (ci := 12) (c := 10) (k := 0) h0 rfl (by omega) (by simp only [upA_t (show (1210 : Nat) ≠ 1208 by omega), upA_t (show (1210 : Nat) ≠ 1209 by omega), upA_t (show (1210 : Nat) ≠ 1213 by omega), upA_t (show (1210 : Nat) ≠ 1212 by omega)])]
  rw [E_sm (ci := 12) (c := 8) (k := 0) h0 rfl (by omega) (by simp only [upA_t (show (1208 : Nat) ≠ 1209 by omega), upA_t (show (1208 : Nat) ≠ 1213 by omega), upA_t (show (1208 : Nat) ≠ 1212 by omega)])]
  rw [E_sm (ci := 12) (c := 9) (k := 0) h0 rfl (by omega) (by simp only [upA_t (show (1209 : Nat) ≠ 1213 by omega), upA_t (show (1209 : Nat) ≠ 1212 by omega)])]
  rw [E_sm (ci := 12) (c := 13) (k := 0) h0 rfl (by omega) (by simp only [upA_t (show (1213 : Nat) ≠ 1212 by omega)])]
  rw [E_sm (ci := 12) (c := 12) (k := 0) h0 rfl (by omega) rfl]
theorem c175 {d : Nat} {k u : Int} {T : Tt} {σ : St} {Q : vmO → vmH → Prop} : Ca d k 175 [.ref 382, .int (i32 u)] (E T σ) Q = Q (.inl (some (.int (i32 0)))) (E T (upA σ 1204 382 fun _ => u)) := by
  have h0 := ob_md
  rw [n175 _ _ _ _ _ _ _ h0]
  simp (disch := (first | assumption | omega | exact Nat.le_of_ble_eq_true rfl | rfl)) only [w175_0, w175_1, w175_2, w175_5, w175_6, Ko_n, Ko_v, vX_i, vX_r, vX_l, vX_j, reduceIte]
theorem c174 {d : Nat} {k : Int} {T : Tt} {σ : St} {Q : vmO → vmH → Prop} : Ca d k 174 [.ref 382] (E T σ) Q = Q (.inl (some (.int (i32 (σ 1204 382 0))))) (E T σ) := by
  have h0 := ob_md
  rw [n174 _ _ _ _ _ _ h0]
  simp (disch := (first | assumption | omega | exact Nat.le_of_ble_eq_true rfl | rfl)) only [w174_0, w174_1, w174_4, Ko_n, Ko_v, vX_i, vX_r, vX_l, vX_j, reduceIte]
def s0P (σ : St) : Ps := (0, σ 1213 382 0, σ 1209 382 0, 0, σ 1210 382 0, σ 1211 382 0, 0, fil (σ 1201 382) 1900 0)
theorem tV_0 {Z : Int → Int} {x y : Int} (hZ : ∀ j, 0 ≤ j → j < 138 → Z j = 0) (x0 : 2 ≤ x) (x1 : x ≤ 6) (y0 : 2 ≤ y) (y1 : y ≤ 6) : tV (fu (fu Z 1 x) 2 y) := by
  have o : ∀ j, 0 ≤ j → j < 138 → j ≠ 1 → j ≠ 2 → fu (fu Z 1 x) 2 y j = 0 := fun j h0 h1 h2 h3 => by rw [fu_n h3, fu_n h2, hZ j h0 h1]
  have q1 : fu (fu Z 1 x) 2 y 1 = x := by rw [fu_n (by omega), fu_s]
  have q2 : fu (fu Z 1 x) 2 y 2 = y := fu_s
  have q3 := o 3 (by omega) (by omega) (by omega) (by omega)
  refine ⟨⟨by rw [q1]; exact ⟨x0, x1⟩, by rw [q2]; exact ⟨y0, y1⟩, by rw [q3]; omega, fun w w0 w1 => by rw [o (93 + w) (by omega) (by omega) (by omega) (by omega)]; omega⟩, by rw [o 4 (by omega) (by omega) (by omega) (by omega)]; omega, o 6 (by omega) (by omega) (by omega) (by omega), by rw [o 92 (by omega) (by omega) (by omega) (by omega)]; omega, fun w e w0 w1 x0 x1 => ?_, ⟨fun k k0 k1 => ?_, fun w w0 w1 => ?_, ?_, ?_, ?_⟩, by rw [o 0 (by omega) (by omega) (by omega) (by omega)]; omega⟩
  · rw [o (93 + w) (by omega) (by omega) (by omega) (by omega)] at x1
    omega
  · rw [o (7 + k) (by omega) (by omega) (by omega) (by omega), o (43 + k) (by omega) (by omega) (by omega) (by omega)]
    omega
  · rw [q3] at w1
    omega
  · rw [o 89 (by omega) (by omega) (by omega) (by omega)]; omega
  · rw [o 90 (by omega) (by omega) (by omega) (by omega)]; omega
  · rw [o 91 (by omega) (by omega) (by omega) (by omega)]; omega
/-- the start: a first token is read -/
def fst0 (n : Int) (s : Ps) : Prop := pO n s ∧ pB s = 0 ∧ pD s = 0 ∧ ∀ j, 0 ≤ j → j < 1900 → pK s j = 0
theorem rd_0 {f : Int → Int} {n : Int} {s : Ps} (hf : tpOk f n) (hb : pB s = 0) (hh : pH s = 0) (hv : 0 ≤ pV s ∧ pV s ≤ 999) (hd : pD s = 0) (hK : ∀ j, 0 ≤ j → j < 1900 → pK s j = 0) : fst0 n (rdOn f n s) := by
  have hn := hf.2
  have hs := skp_in (f := f) (n := n) 900 (pH s)
  have ht := tok_in (v := pV s) hf (b := skp f n 900 (pH s)) (by omega) (hs.2 (by omega)) hv.1 hv.2
  exact ⟨⟨by show 0 ≤ pB s ∧ pB s ≤ 4; omega, ht.2.1, ⟨by show 0 ≤ skp f n 900 (pH s); omega, ht.1.1, ht.1.2⟩, ht.2.2.1, fun _ => ht.2.2.2, by show 0 ≤ pD s ∧ pD s ≤ 7; omega⟩, hb, hd, hK⟩
/-- the first line ahead of its end -/
def prk0 (f : Int → Int) (n : Int) (s : Ps) : Ps :=
  let s1 := if isWd f 1 s then rdOn f n s else blm 2 s
  let x := nmb f n 2 6 s1
  let y := nmb f n 2 6 (stK2 (fu (pK x.2) 1 x.1) x.2)
  stK2 (fu (pK y.2) 2 y.1) y.2
theorem prk0_J {f : Int → Int} {n : Int} {s : Ps} (hf : tpOk f n) (h : fst0 n s) : iL n (prk0 f n s) ∧ pK (prk0 f n s) 0 = 0 ∧ ∀ j, 0 ≤ j → j < 1900 → j ≠ 1 → j ≠ 2 → pK (prk0 f n s) j = 0 := by
  obtain ⟨h1, h2, h3, h4⟩ := h
  unfold prk0
  dsimp only
  have m1 : Mv n s (if isWd f 1 s = true then rdOn f n s else blm 2 s) := by
    split
    · exact Mv_rd hf h1
    · exact Mv_bl h1 (by omega) (by omega)
  generalize (if isWd f 1 s = true then rdOn f n s else blm 2 s) = s1 at *
  have mx := Mv_t m1 (Mv_nm (lo := 2) (hi := 6) hf m1.1)
  have vx := (nmb_v (f := f) (lo := 2) (hi := 6) m1.1).2.1 (by omega)
  generalize nmb f n 2 6 s1 = x at *
  have ox : pO n (stK2 (fu (pK x.2) 1 x.1) x.2) := mx.1
  have my := Mv_nm (lo := 2) (hi := 6) hf ox
  have vy := (nmb_v (f := f) (lo := 2) (hi := 6) ox).2.1 (by omega)
  generalize nmb f n 2 6 (stK2 (fu (pK x.2) 1 x.1) x.2) = y at *
  have hK : pK (stK2 (fu (pK y.2) 2 y.1) y.2) = fu (fu (pK s) 1 x.1) 2 y.1 := by
    show fu (pK y.2) 2 y.1 = _
    rw [my.2.1]
    show fu (fu (pK x.2) 1 x.1) 2 y.1 = _
    rw [mx.2.1]
  have o : ∀ j, 0 ≤ j → j < 1900 → j ≠ 1 → j ≠ 2 → pK (stK2 (fu (pK y.2) 2 y.1) y.2) j = 0 := fun j a b c e => by rw [hK, fu_n e, fu_n c, h4 j a b]
  have o5 := o 5 (by omega) (by omega) (by omega) (by omega)
  refine ⟨⟨my.1, by rw [hK]; exact tV_0 (fun j a b => h4 j a (by omega)) vx.1 vx.2 vy.1 vy.2, ⟨by rw [o5]; omega, fun _ => by rw [o5]; exact my.1.2.2.1.1⟩, ?_⟩, o 0 (by omega) (by omega) (by omega) (by omega), o⟩
  show pD y.2 = 0
  rw [my.2.2.1]
  show pD x.2 = 0
  rw [mx.2.2.1, h3]
theorem prk1_M {f : Int → Int} {n : Int} {s : Ps} (hf : tpOk f n) (h : fst0 n s) : mL n (prk1 f n s) := by
  have j := prk0_J hf h
  have e : prk1 f n s = stpL f n (prk0 f n s) := rfl
  rw [e]
  generalize prk0 f n s = t at *
  have m := stp_M hf j.1.1 j.1.2.2.1 (fun _ => by rw [j.2.1]; exact j.1.1.2.2.1.1) (by rw [j.2.1]; omega)
  exact ⟨⟨m.1, tV_cg (fun i _ i0 _ => m.2.2.2.2.1 i i0) m.2.2.2.2.2 j.1.2.1, m.2.1, by rw [m.2.2.2.1]; exact j.1.2.2.2⟩, fun e => (m.2.2.1 e).2.2⟩
theorem prk_lp {f : Int → Int} {n : Int} {σ : St} (hF : σ 1205 382 = f) (hn : σ 1207 382 0 = n) (hf : tpOk f n) : ∀ (m : Nat) (s : Ps), mL n s → mL n (lpG (fun s => decide (pB s = 0 ∧ pT s ≠ 0)) (lin f n) m s)
  | 0, _, h => h
  | m + 1, s, h => by
    simp only [lpG]
    split
    · exact prk_lp hF hn hf m _ (lin_M hF hn hf h).1
    · exact h
