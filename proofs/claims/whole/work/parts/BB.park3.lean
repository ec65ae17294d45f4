/-! ===== the reference's park: its contract ===== -/
theorem cp_fuK {f g : Int → Int} {z : Int} (h0 : 0 ≤ z) : fu (cp f g z) z (f z) = cp f g (z + 1) := by
  funext j
  unfold cp
  by_cases e : j = z
  · rw [e, fu_s, if_pos (by omega)]
  · rw [fu_n e]
    by_cases h : 0 ≤ j ∧ j < z
    · rw [if_pos h, if_pos (by omega)]
    · rw [if_neg h, if_neg (by omega)]
theorem cp_0K {f g : Int → Int} : cp f g 0 = g := by
  funext j
  unfold cp
  rw [if_neg (by omega)]
/-- the store where reading begins -/
def pk0 (σ : St) (n : Int) : St := upA (upA (upA (upA (upA (upA (upA σ 1204 382 fun _ => 0) 1207 382 fun _ => n) 1206 382 fun _ => 0) 1208 382 fun _ => 0) 1212 382 fun _ => 0) 1216 382 fun _ => 0) 1201 382 (fil (σ 1201 382) 1900 0)
theorem pk0_t {σ : St} {n : Int} {t o : Nat} (h : t < 1201 ∨ (1201 < t ∧ t < 1204) ∨ t = 1205 ∨ (1208 < t ∧ t < 1212) ∨ (1212 < t ∧ t < 1216) ∨ 1216 < t) : pk0 σ n t o = σ t o := by
  unfold pk0
  rw [upA_t (by omega), upA_t (by omega), upA_t (by omega), upA_t (by omega), upA_t (by omega), upA_t (by omega), upA_t (by omega)]
theorem pk0_E {T : Tt} {σ : St} {n : Int} : E T (pS (pk0 σ n) (s0P σ)) = E T (pk0 σ n) := by
  have := pS_E (T := T) (τ := pk0 σ n)
  rw [show pk0 σ n 1212 382 0 = 0 by unfold pk0; rw [upA_t (by omega), upA_t (by omega), upA_s], show pk0 σ n 1213 382 = σ 1213 382 from pk0_t (by omega), show pk0 σ n 1209 382 = σ 1209 382 from pk0_t (by omega), show pk0 σ n 1208 382 0 = 0 by unfold pk0; rw [upA_t (by omega), upA_t (by omega), upA_t (by omega), upA_s], show pk0 σ n 1210 382 = σ 1210 382 from pk0_t (by omega), show pk0 σ n 1211 382 = σ 1211 382 from pk0_t (by omega), show pk0 σ n 1216 382 0 = 0 by unfold pk0; rw [upA_t (by omega), upA_s], show pk0 σ n 1201 382 = fil (σ 1201 382) 1900 0 by unfold pk0; rw [upA_s]] at this
  exact this
theorem c208 {d : Nat} {k n : Int} {T : Tt} {σ : St} {Q : vmO → vmH → Prop} (x0 : -2147483648 ≤ n) (x1 : n < 2147483648) (tp0 : 0 ≤ σ 1206 382 0) (tp1 : σ 1206 382 0 ≤ 900) (hv : 0 ≤ σ 1211 382 0 ∧ σ 1211 382 0 ≤ 999) (hf : ∀ z, 0 ≤ z → z < 900 → 0 ≤ σ 1205 382 z ∧ σ 1205 382 z ≤ 255)
    (hQ1 : ¬ (0 ≤ n ∧ n ≤ σ 1206 382 0) → Q (.inl (some (.int (i32 0)))) (E T (upA σ 1204 382 fun _ => 1)))
    (hQ2 : 0 ≤ n → n ≤ σ 1206 382 0 → ∀ τ : St, (∀ t o, (t < 1200 ∨ t = 1202 ∨ t = 1203 ∨ t = 1205 ∨ 1217 ≤ t) → τ t o = σ t o) → τ 1204 382 0 = 0 → τ 1206 382 0 = 0 → τ 1214 382 0 = pB (prk (σ 1205 382) n (s0P σ)) → τ 1215 382 0 = (if pB (prk (σ 1205 382) n (s0P σ)) = 0 then -1 else pP (prk (σ 1205 382) n (s0P σ))) → (0 ≤ τ 1211 382 0 ∧ τ 1211 382 0 ≤ 999) → τ 1200 382 = (if pB (prk (σ 1205 382) n (s0P σ)) = 0 then cp (pK (prk (σ 1205 382) n (s0P σ))) (σ 1200 382) 1900 else σ 1200 382) → Q (.inl (some (.int (i32 (if pB (prk (σ 1205 382) n (s0P σ)) = 0 then pK (prk (σ 1205 382) n (s0P σ)) 0 else -10 - pB (prk (σ 1205 382) n (s0P σ))))))) (E T τ)) : Ca (d + 35) k 208 [.ref 382, .int (i32 n)] (E T σ) Q := by
  have h0 := ob_md
  rw [n208 _ _ _ _ _ _ _ h0]
  simp (disch := (first | assumption | omega | exact Nat.le_of_ble_eq_true rfl | rfl)) only [w208_0, w208_1, w208_2, w208_5, w208_6, w208_7, w208_8, w208_9, w208_12, w208_13, w208_16, w208_19, w208_20, w208_21, w208_24, w208_25, w208_26, w208_27, w208_30, w208_31, w208_32, w208_35, w208_36, w208_37, w208_40, w208_41, w208_42, w208_45, w208_46, w208_47, w208_50, w208_51, Ko_n, Ko_v, vX_i, vX_r, vX_l, vX_j, reduceIte, upA_t]
  rw [c176 (by omega) (by omega) (by omega) (by omega) (by omega) (by omega) (by omega)]
  by_cases hin : 0 ≤ n ∧ n ≤ σ 1206 382 0
  · rw [if_pos hin]
    have hq := hQ2 hin.1 hin.2
    clear hQ1 hQ2
    have hfn : tpOk (σ 1205 382) n := ⟨hf, by omega, by omega⟩
    have hF : pk0 σ n 1205 382 = σ 1205 382 := pk0_t (by omega)
    have hn : pk0 σ n 1207 382 0 = n := by unfold pk0; rw [upA_t (by omega), upA_t (by omega), upA_t (by omega), upA_t (by omega), upA_t (by omega), upA_s]
    simp (disch := (first | assumption | omega | exact Nat.le_of_ble_eq_true rfl | rfl)) only [w208_0, w208_1, w208_2, w208_5, w208_6, w208_7, w208_8, w208_9, w208_12, w208_13, w208_16, w208_19, w208_20, w208_21, w208_24, w208_25, w208_26, w208_27, w208_30, w208_31, w208_32, w208_35, w208_36, w208_37, w208_40, w208_41, w208_42, w208_45, w208_46, w208_47, w208_50, w208_51, Ko_n, Ko_v, vX_i, vX_r, vX_l, vX_j, reduceIte, Int.reduceEq, not_false_eq_true]
    have loop0 : ∀ (m j : Nat), j + m = 1900 → Wp (d + 35) M_X12_park 52 [.ref 382, .int (i32 n), .int (i32 j)] [] (E T (upA (upA (upA (upA (upA (upA (upA σ 1204 382 fun _ => 0) 1207 382 fun _ => n) 1206 382 fun _ => 0) 1208 382 fun _ => 0) 1212 382 fun _ => 0) 1216 382 fun _ => 0) 1201 382 (fil (σ 1201 382) j 0))) Q = Wp (d + 35) M_X12_park 72 [.ref 382, .int (i32 n), .int (i32 1900)] [] (E T (pk0 σ n)) Q := by
      intro m
      induction m with
      | zero =>
        intro j hj
        have hj : j = 1900 := by omega
        subst hj
        rw [w208_52]
        simp (disch := (first | assumption | omega | exact Nat.le_of_ble_eq_true rfl | rfl)) only [w208_53, w208_56, w208_59, w208_60, w208_63, w208_64, w208_65, w208_66, w208_69, Ko_n, Ko_v, vX_i, vX_r, vX_l, vX_j, reduceIte, show (1900 : Int) ≤ ((1900 : Nat) : Int) by omega]
        rfl
      | succ m ih =>
        intro j hj
        have ih' := ih (j + 1) (by omega)
        rw [show ((j + 1 : Nat) : Int) = (j : Int) + 1 by omega, ← fil_fu (by omega)] at ih'
        rw [w208_52]
        simp (disch := (first | assumption | omega | exact Nat.le_of_ble_eq_true rfl | rfl)) only [w208_53, w208_56, w208_59, w208_60, w208_63, w208_64, w208_65, w208_66, w208_69, Ko_n, Ko_v, vX_i, vX_r, vX_l, vX_j, reduceIte, show ¬ (1900 : Int) ≤ (j : Int) by omega, upA_s, upA_upA]
        exact ih'
    have l0 := loop0 1900 0 (by omega)
    rw [show ((0 : Nat) : Int) = 0 from rfl, fil_0, show (upA (upA (upA (upA (upA (upA (upA σ 1204 382 fun _ => 0) 1207 382 fun _ => n) 1206 382 fun _ => 0) 1208 382 fun _ => 0) 1212 382 fun _ => 0) 1216 382 fun _ => 0) 1201 382 (σ 1201 382)) = (upA (upA (upA (upA (upA (upA σ 1204 382 fun _ => 0) 1207 382 fun _ => n) 1206 382 fun _ => 0) 1208 382 fun _ => 0) 1212 382 fun _ => 0) 1216 382 fun _ => 0) by
      have e1 : σ 1201 382 = (upA (upA (upA (upA (upA (upA σ 1204 382 fun _ => 0) 1207 382 fun _ => n) 1206 382 fun _ => 0) 1208 382 fun _ => 0) 1212 382 fun _ => 0) 1216 382 fun _ => 0) 1201 382 := by
        rw [upA_t (by omega), upA_t (by omega), upA_t (by omega), upA_t (by omega), upA_t (by omega), upA_t (by omega)]
      conv => lhs; rw [e1]
      exact upA_self] at l0
    rw [l0]
    clear l0 loop0
    rw [← pk0_E]
    have f0 : fst0 n (rdOn (σ 1205 382) n (s0P σ)) := rd_0 hfn rfl rfl hv rfl (fun j a b => by show fil (σ 1201 382) 1900 0 j = 0; unfold fil; rw [if_pos ⟨a, b⟩])
    have j0 := prk0_J hfn f0
    have m1 := prk1_M hfn f0
    have hp : prk (σ 1205 382) n (s0P σ) = lpG (fun s => decide (pB s = 0 ∧ pT s ≠ 0)) (lin (σ 1205 382) n) 901 (prk1 (σ 1205 382) n (rdOn (σ 1205 382) n (s0P σ))) := rfl
    have mP : mL n (prk (σ 1205 382) n (s0P σ)) := by rw [hp]; exact prk_lp hF hn hfn 901 _ m1
    have hlp : ∀ (m : Nat) (s : Ps), mL n s → (pB s = 0 → n - pG s ≤ m) → Wp (d + 35) M_X12_park 112 [.ref 382, .int (i32 n), .int (i32 1900)] [] (E T (pS (pk0 σ n) s)) Q = Wp (d + 35) M_X12_park 133 [.ref 382, .int (i32 n), .int (i32 1900)] [] (E T (pS (pk0 σ n) (lpG (fun s => decide (pB s = 0 ∧ pT s ≠ 0)) (lin (σ 1205 382) n) m s))) Q := by
      intro m
      induction m with
      | zero =>
        intro s hs hm
        have hb := hs.1.1.1
        have htt := hs.1.1.2.1
        simp (disch := omega) only [w208_112]
        by_cases e : pB s = 0
        · have e2 : pT s = 0 := by
            by_cases e2 : pT s = 0
            · exact e2
            · have := hs.1.1.2.2.2.2.1 e e2
              have := hm e
              have := hs.1.1.2.2.1
              omega
          simp (disch := (first | assumption | omega | exact Nat.le_of_ble_eq_true rfl | rfl)) only [w208_113, w208_116, w208_119, w208_120, w208_123, w208_126, w208_127, w208_130, Ko_n, Ko_v, vX_i, vX_r, vX_l, vX_j, reduceIte, pS_B, pS_T, e, e2, not_true]
          rfl
        · simp (disch := (first | assumption | omega | exact Nat.le_of_ble_eq_true rfl | rfl)) only [w208_113, w208_116, w208_119, w208_120, w208_123, w208_126, w208_127, w208_130, Ko_n, Ko_v, vX_i, vX_r, vX_l, vX_j, reduceIte, pS_B, e, not_false_eq_true]
          rfl
      | succ m ih =>
        intro s hs hm
        have hb := hs.1.1.1
        have htt := hs.1.1.2.1
        simp (disch := omega) only [w208_112]
        by_cases e : pB s = 0
        · by_cases e2 : pT s = 0
          · rw [lpG_0 (n := n) (decide_eq_false fun w => w.2 e2)]
            simp (disch := (first | assumption | omega | exact Nat.le_of_ble_eq_true rfl | rfl)) only [w208_113, w208_116, w208_119, w208_120, w208_123, w208_126, w208_127, w208_130, Ko_n, Ko_v, vX_i, vX_r, vX_l, vX_j, reduceIte, pS_B, pS_T, e, e2, not_true]
          · have lm := lin_M hF hn hfn hs
            have hmm := hm e
            have ih' := ih _ lm.1 (fun e3 => by have := (lm.2 e3).2; omega)
            rw [show lpG (fun s => decide (pB s = 0 ∧ pT s ≠ 0)) (lin (σ 1205 382) n) (m + 1) s = lpG (fun s => decide (pB s = 0 ∧ pT s ≠ 0)) (lin (σ 1205 382) n) m (lin (σ 1205 382) n s) by simp only [lpG]; rw [if_pos (decide_eq_true ⟨e, e2⟩)]]
            simp (disch := (first | assumption | omega | exact Nat.le_of_ble_eq_true rfl | rfl)) only [w208_113, w208_116, w208_119, w208_120, w208_123, w208_126, w208_127, w208_130, Ko_n, Ko_v, vX_i, vX_r, vX_l, vX_j, reduceIte, pS_B, pS_T, e, e2, not_true]
            rw [c207 hF hn hfn hs.1]
            simp (disch := (first | assumption | omega | exact Nat.le_of_ble_eq_true rfl | rfl)) only [w208_113, w208_116, w208_119, w208_120, w208_123, w208_126, w208_127, w208_130, Ko_n, Ko_v, vX_i, vX_r, vX_l, vX_j, reduceIte]
            exact ih'
        · rw [lpG_0 (n := n) (decide_eq_false fun w => e w.1)]
          simp (disch := (first | assumption | omega | exact Nat.le_of_ble_eq_true rfl | rfl)) only [w208_113, w208_116, w208_119, w208_120, w208_123, w208_126, w208_127, w208_130, Ko_n, Ko_v, vX_i, vX_r, vX_l, vX_j, reduceIte, pS_B, e, not_false_eq_true]
    have fin : Wp (d + 35) M_X12_park 133 [.ref 382, .int (i32 n), .int (i32 1900)] [] (E T (pS (pk0 σ n) (prk (σ 1205 382) n (s0P σ)))) Q := by
      generalize prk (σ 1205 382) n (s0P σ) = s at *
      have hb := mP.1.1.1
      have hvv := mP.1.1.2.2.2.1
      have hp9 := mP.1.1.2.2.1
      by_cases e : pB s = 0
      · rw [if_pos e, if_pos e, if_pos e] at hq
        simp (disch := (first | assumption | omega | exact Nat.le_of_ble_eq_true rfl | rfl)) only [w208_133, w208_134, w208_135, w208_138, w208_141, w208_142, w208_143, w208_146, w208_149, w208_150, w208_153, w208_154, w208_157, w208_160, w208_161, w208_164, w208_167, w208_169, w208_170, w208_173, w208_174, w208_175, w208_176, Ko_n, Ko_v, vX_i, vX_r, vX_l, vX_j, reduceIte, pS_B, upA_t, e, not_true]
        have loop : ∀ (m j : Nat), j + m = 1900 → Wp (d + 35) M_X12_park 177 [.ref 382, .int (i32 n), .int (i32 j)] [] (E T (upA (upA (upA (pS (pk0 σ n) s) 1214 382 fun _ => 0) 1215 382 fun _ => -1) 1200 382 (cp (pK s) (σ 1200 382) j))) Q := by
          intro m
          induction m with
          | zero =>
            intro j hj
            have hj : j = 1900 := by omega
            subst hj
            rw [w208_177]
            simp (disch := (first | assumption | omega | exact Nat.le_of_ble_eq_true rfl | rfl)) only [w208_0, w208_1, w208_2, w208_5, w208_6, w208_7, w208_8, w208_9, w208_12, w208_13, w208_16, w208_19, w208_20, w208_21, w208_24, w208_25, w208_26, w208_27, w208_30, w208_31, w208_32, w208_35, w208_36, w208_37, w208_40, w208_41, w208_42, w208_45, w208_46, w208_47, w208_50, w208_51, w208_53, w208_56, w208_59, w208_60, w208_63, w208_64, w208_65, w208_66, w208_69, w208_72, w208_73, w208_76, w208_77, w208_79, w208_82, w208_83, w208_86, w208_87, w208_88, w208_89, w208_91, w208_94, w208_95, w208_96, w208_99, w208_100, w208_101, w208_102, w208_104, w208_107, w208_108, w208_109, w208_113, w208_116, w208_119, w208_120, w208_123, w208_126, w208_127, w208_130, w208_133, w208_134, w208_135, w208_138, w208_141, w208_142, w208_143, w208_146, w208_149, w208_150, w208_153, w208_154, w208_157, w208_160, w208_161, w208_164, w208_167, w208_169, w208_170, w208_173, w208_174, w208_175, w208_176, w208_178, w208_181, w208_184, w208_185, w208_188, w208_189, w208_190, w208_193, w208_194, w208_195, w208_196, w208_199, w208_202, w208_203, w208_206, w208_207, w208_208, Ko_n, Ko_v, vX_i, vX_r, vX_l, vX_j, reduceIte, show (1900 : Int) ≤ ((1900 : Nat) : Int) by omega, upA_s]
            have e0 : cp (pK s) (σ 1200 382) ((1900 : Nat) : Int) 0 = pK s 0 := by unfold cp; rw [if_pos (by omega)]
            rw [e0]
            refine hq _ (fun t o ht => ?_) ?_ ?_ ?_ ?_ ?_ ?_
            · rw [upA_t (by omega), upA_t (by omega), upA_t (by omega), pS_t (by omega), pk0_t (by omega)]
            · rw [upA_t (by omega), upA_t (by omega), upA_t (by omega), pS_t (by omega)]
              unfold pk0
              rw [upA_t (by omega), upA_t (by omega), upA_t (by omega), upA_t (by omega), upA_t (by omega), upA_t (by omega), upA_s]
            · rw [upA_t (by omega), upA_t (by omega), upA_t (by omega), pS_t (by omega)]
              unfold pk0
              rw [upA_t (by omega), upA_t (by omega), upA_t (by omega), upA_t (by omega), upA_s]
            · rw [upA_t (by omega), upA_t (by omega), upA_s, e]
            · rw [upA_t (by omega), upA_s]
            · rw [upA_t (by omega), upA_t (by omega), upA_t (by omega), pS_V]
              exact hvv
            · rw [upA_s]
              rfl
          | succ m ih =>
            intro j hj
            have ih' := ih (j + 1) (by omega)
            rw [show ((j + 1 : Nat) : Int) = (j : Int) + 1 by omega, ← cp_fuK (by omega)] at ih'
            rw [w208_177]
            simp (disch := (first | assumption | omega | exact Nat.le_of_ble_eq_true rfl | rfl)) only [w208_178, w208_181, w208_184, w208_185, w208_188, w208_189, w208_190, w208_193, w208_194, w208_195, w208_196, w208_199, Ko_n, Ko_v, vX_i, vX_r, vX_l, vX_j, reduceIte, show ¬ (1900 : Int) ≤ (j : Int) by omega, upA_s, upA_upA, upA_t, pS_K]
            exact ih'
        have l := loop 1900 0 (by omega)
        rw [show ((0 : Nat) : Int) = 0 from rfl, cp_0K, show (upA (upA (upA (pS (pk0 σ n) s) 1214 382 fun _ => 0) 1215 382 fun _ => -1) 1200 382 (σ 1200 382)) = (upA (upA (pS (pk0 σ n) s) 1214 382 fun _ => 0) 1215 382 fun _ => -1) by
          have e1 : σ 1200 382 = (upA (upA (pS (pk0 σ n) s) 1214 382 fun _ => 0) 1215 382 fun _ => -1) 1200 382 := by
            rw [upA_t (by omega), upA_t (by omega), pS_t (by omega), pk0_t (by omega)]
          conv => lhs; rw [e1]
          exact upA_self] at l
        exact l
      · rw [if_neg e, if_neg e, if_neg e] at hq
        simp (disch := (first | assumption | omega | exact Nat.le_of_ble_eq_true rfl | rfl)) only [w208_133, w208_134, w208_135, w208_138, w208_141, w208_142, w208_143, w208_146, w208_149, w208_150, w208_153, w208_154, w208_157, w208_160, w208_161, w208_164, w208_167, w208_169, w208_170, w208_173, w208_174, w208_175, w208_176, Ko_n, Ko_v, vX_i, vX_r, vX_l, vX_j, reduceIte, pS_B, pS_P, upA_t, e, not_false_eq_true]
        refine hq _ (fun t o ht => ?_) ?_ ?_ ?_ ?_ ?_ ?_
        · rw [upA_t (by omega), upA_t (by omega), pS_t (by omega), pk0_t (by omega)]
        · rw [upA_t (by omega), upA_t (by omega), pS_t (by omega)]
          unfold pk0
          rw [upA_t (by omega), upA_t (by omega), upA_t (by omega), upA_t (by omega), upA_t (by omega), upA_t (by omega), upA_s]
        · rw [upA_t (by omega), upA_t (by omega), pS_t (by omega)]
          unfold pk0
          rw [upA_t (by omega), upA_t (by omega), upA_t (by omega), upA_t (by omega), upA_s]
        · rw [upA_t (by omega), upA_s]
        · rw [upA_s]
        · rw [upA_t (by omega), upA_t (by omega), pS_V]
          exact hvv
        · rw [upA_t (by omega), upA_t (by omega), pS_t (by omega), pk0_t (by omega)]
    have l1 := hlp 901 _ m1 (fun _ => by have := m1.1.1.2.2.1; omega)
    rw [← hp] at l1
    rw [← l1] at fin
    clear l1 hlp hq hp mP
    simp (disch := (first | assumption | omega | exact Nat.le_of_ble_eq_true rfl | rfl)) only [w208_72, w208_73, w208_76, w208_77, w208_79, w208_82, w208_83, w208_86, w208_87, w208_88, w208_89, w208_91, w208_94, w208_95, w208_96, w208_99, w208_100, w208_101, w208_102, w208_104, w208_107, w208_108, w208_109, Ko_n, Ko_v, vX_i, vX_r, vX_l, vX_j, reduceIte]
    rw [c184g hF hn hfn (by show (0 : Int) ≤ 0; omega) (by show 0 ≤ n; omega)]
    generalize rdOn (σ 1205 382) n (s0P σ) = s at *
    simp (disch := (first | assumption | omega | exact Nat.le_of_ble_eq_true rfl | rfl)) only [w208_72, w208_73, w208_76, w208_77, w208_79, w208_82, w208_83, w208_86, w208_87, w208_88, w208_89, w208_91, w208_94, w208_95, w208_96, w208_99, w208_100, w208_101, w208_102, w208_104, w208_107, w208_108, w208_109, Ko_n, Ko_v, vX_i, vX_r, vX_l, vX_j, reduceIte]
    have hcw : ∀ {r : Nat} {d k Q}, r = 1000000 + 2 * 1 → Ca (d + 6) k 191 [.ref 382, .ref r] (E T (pS (pk0 σ n) s)) Q = Q (.inl none) (E T (pS (pk0 σ n) (if isWd (σ 1205 382) 1 s then rdOn (σ 1205 382) n s else blm 2 s))) := by
      intro r d k Q hr
      subst hr
      exact c191 hF hn hfn f0.1 (by omega)
    rw [hcw rfl]
    have mm : Mv n s (if isWd (σ 1205 382) 1 s = true then rdOn (σ 1205 382) n s else blm 2 s) := by
      split
      · exact Mv_rd hfn f0.1
      · exact Mv_bl f0.1 (by omega) (by omega)
    have e9 : prk1 (σ 1205 382) n s = stpL (σ 1205 382) n (prk0 (σ 1205 382) n s) := rfl
    rw [e9] at fin
    unfold prk0 at fin j0
    dsimp only at fin j0
    generalize (if isWd (σ 1205 382) 1 s = true then rdOn (σ 1205 382) n s else blm 2 s) = s1 at *
    simp (disch := (first | assumption | omega | exact Nat.le_of_ble_eq_true rfl | rfl)) only [w208_72, w208_73, w208_76, w208_77, w208_79, w208_82, w208_83, w208_86, w208_87, w208_88, w208_89, w208_91, w208_94, w208_95, w208_96, w208_99, w208_100, w208_101, w208_102, w208_104, w208_107, w208_108, w208_109, Ko_n, Ko_v, vX_i, vX_r, vX_l, vX_j, reduceIte]
    rw [c190 hF hn hfn mm.1 (by omega) (by omega) (by omega) (by omega)]
    have mx := Mv_nm (lo := 2) (hi := 6) hfn mm.1
    generalize nmb (σ 1205 382) n 2 6 s1 = x at *
    simp (disch := (first | assumption | omega | exact Nat.le_of_ble_eq_true rfl | rfl)) only [w208_72, w208_73, w208_76, w208_77, w208_79, w208_82, w208_83, w208_86, w208_87, w208_88, w208_89, w208_91, w208_94, w208_95, w208_96, w208_99, w208_100, w208_101, w208_102, w208_104, w208_107, w208_108, w208_109, Ko_n, Ko_v, vX_i, vX_r, vX_l, vX_j, reduceIte, pS_K, pS_uK, pS_st]
    have ox : pO n (stK2 (fu (pK x.2) 1 x.1) x.2) := mx.1
    rw [c190 hF hn hfn ox (by omega) (by omega) (by omega) (by omega)]
    generalize nmb (σ 1205 382) n 2 6 (stK2 (fu (pK x.2) 1 x.1) x.2) = y at *
    simp (disch := (first | assumption | omega | exact Nat.le_of_ble_eq_true rfl | rfl)) only [w208_72, w208_73, w208_76, w208_77, w208_79, w208_82, w208_83, w208_86, w208_87, w208_88, w208_89, w208_91, w208_94, w208_95, w208_96, w208_99, w208_100, w208_101, w208_102, w208_104, w208_107, w208_108, w208_109, Ko_n, Ko_v, vX_i, vX_r, vX_l, vX_j, reduceIte, pS_K, pS_uK, pS_st]
    rw [c206 hF hn hfn j0.1.1]
    simp (disch := (first | assumption | omega | exact Nat.le_of_ble_eq_true rfl | rfl)) only [w208_72, w208_73, w208_76, w208_77, w208_79, w208_82, w208_83, w208_86, w208_87, w208_88, w208_89, w208_91, w208_94, w208_95, w208_96, w208_99, w208_100, w208_101, w208_102, w208_104, w208_107, w208_108, w208_109, Ko_n, Ko_v, vX_i, vX_r, vX_l, vX_j, reduceIte]
    exact fin
  · rw [if_neg hin]
    simp (disch := (first | assumption | omega | exact Nat.le_of_ble_eq_true rfl | rfl)) only [w208_0, w208_1, w208_2, w208_5, w208_6, w208_7, w208_8, w208_9, w208_12, w208_13, w208_16, w208_19, w208_20, w208_21, w208_24, w208_25, w208_26, w208_27, w208_30, w208_31, w208_32, w208_35, w208_36, w208_37, w208_40, w208_41, w208_42, w208_45, w208_46, w208_47, w208_50, w208_51, w208_53, w208_56, w208_59, w208_60, w208_63, w208_64, w208_65, w208_66, w208_69, w208_72, w208_73, w208_76, w208_77, w208_79, w208_82, w208_83, w208_86, w208_87, w208_88, w208_89, w208_91, w208_94, w208_95, w208_96, w208_99, w208_100, w208_101, w208_102, w208_104, w208_107, w208_108, w208_109, w208_113, w208_116, w208_119, w208_120, w208_123, w208_126, w208_127, w208_130, w208_133, w208_134, w208_135, w208_138, w208_141, w208_142, w208_143, w208_146, w208_149, w208_150, w208_153, w208_154, w208_157, w208_160, w208_161, w208_164, w208_167, w208_169, w208_170, w208_173, w208_174, w208_175, w208_176, w208_178, w208_181, w208_184, w208_185, w208_188, w208_189, w208_190, w208_193, w208_194, w208_195, w208_196, w208_199, w208_202, w208_203, w208_206, w208_207, w208_208, Ko_n, Ko_v, vX_i, vX_r, vX_l, vX_j, reduceIte, Int.reduceEq, not_true]
    rw [c175]
    simp (disch := (first | assumption | omega | exact Nat.le_of_ble_eq_true rfl | rfl)) only [w208_0, w208_1, w208_2, w208_5, w208_6, w208_7, w208_8, w208_9, w208_12, w208_13, w208_16, w208_19, w208_20, w208_21, w208_24, w208_25, w208_26, w208_27, w208_30, w208_31, w208_32, w208_35, w208_36, w208_37, w208_40, w208_41, w208_42, w208_45, w208_46, w208_47, w208_50, w208_51, w208_53, w208_56, w208_59, w208_60, w208_63, w208_64, w208_65, w208_66, w208_69, w208_72, w208_73, w208_76, w208_77, w208_79, w208_82, w208_83, w208_86, w208_87, w208_88, w208_89, w208_91, w208_94, w208_95, w208_96, w208_99, w208_100, w208_101, w208_102, w208_104, w208_107, w208_108, w208_109, w208_113, w208_116, w208_119, w208_120, w208_123, w208_126, w208_127, w208_130, w208_133, w208_134, w208_135, w208_138, w208_141, w208_142, w208_143, w208_146, w208_149, w208_150, w208_153, w208_154, w208_157, w208_160, w208_161, w208_164, w208_167, w208_169, w208_170, w208_173, w208_174, w208_175, w208_176, w208_178, w208_181, w208_184, w208_185, w208_188, w208_189, w208_190, w208_193, w208_194, w208_195, w208_196, w208_199, w208_202, w208_203, w208_206, w208_207, w208_208, Ko_n, Ko_v, vX_i, vX_r, vX_l, vX_j, reduceIte, upA_upA]
    exact hQ1 hin
