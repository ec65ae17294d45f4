/-! ===== Plan.layOut ===== -/
def lcI (W : Int) : Nat → Int64
  | 0 => i64 0
  | n + 1 => lcI W n ||| ll (i64 1) (n * W)
theorem lc_all : ∀ w : Fin 5, ∀ h : Fin 5, ll (i64 1) (((w.val : Int) + 2) * ((h.val : Int) + 2)) - i64 1 = bs (inB ((w.val : Int) + 2) ((h.val : Int) + 2)) ∧ lcI ((w.val : Int) + 2) (h.val + 2) = bs (fun k => inB ((w.val : Int) + 2) ((h.val : Int) + 2) k && decide (k % ((w.val : Int) + 2) = 0)) ∧ ll (lcI ((w.val : Int) + 2) (h.val + 2)) ((w.val : Int) + 2 - 1) = bs (fun k => inB ((w.val : Int) + 2) ((h.val : Int) + 2) k && decide (k % ((w.val : Int) + 2) = (w.val : Int) + 2 - 1)) := by decide +kernel
theorem lc_ok {W H : Int} (h : wh2 W H) : ll (i64 1) (W * H) - i64 1 = bs (inB W H) ∧ lcI W H.toNat = bs (fun k => inB W H k && decide (k % W = 0)) ∧ ll (lcI W H.toNat) (W - 1) = bs (fun k => inB W H k && decide (k % W = W - 1)) := by
  obtain ⟨h1, h2, h3, h4⟩ := h
  have := lc_all ⟨(W - 2).toNat, by omega⟩ ⟨(H - 2).toNat, by omega⟩
  dsimp only at this
  rw [show (((W - 2).toNat : Nat) : Int) + 2 = W by omega, show (((H - 2).toNat : Nat) : Int) + 2 = H by omega, show (H - 2).toNat + 2 = H.toNat by omega] at this
  exact this
def nbF (W H : Int) (g : Int → Int) (n : Int) : Int → Int := fun j => if 0 ≤ j ∧ j < 4 * n then nbC W H (j / 4) (j % 4) else g j
theorem nbF_0 {W H : Int} {g : Int → Int} : nbF W H g 0 = g := by
  funext j
  unfold nbF
  rw [if_neg (by omega)]
theorem nbF_s {W H n : Int} {g : Int → Int} (h0 : 0 ≤ n) : fu (fu (fu (fu (nbF W H g n) (4 * n) (nbC W H n 0)) (4 * n + 1) (nbC W H n 1)) (4 * n + 2) (nbC W H n 2)) (4 * n + 3) (nbC W H n 3) = nbF W H g (n + 1) := by
  funext j
  unfold nbF
  by_cases e3 : j = 4 * n + 3
  · rw [e3, fu_s, if_pos (by omega), show (4 * n + 3) / 4 = n by omega, show (4 * n + 3) % 4 = 3 by omega]
  · rw [fu_n e3]
    by_cases e2 : j = 4 * n + 2
    · rw [e2, fu_s, if_pos (by omega), show (4 * n + 2) / 4 = n by omega, show (4 * n + 2) % 4 = 2 by omega]
    · rw [fu_n e2]
      by_cases e1 : j = 4 * n + 1
      · rw [e1, fu_s, if_pos (by omega), show (4 * n + 1) / 4 = n by omega, show (4 * n + 1) % 4 = 1 by omega]
      · rw [fu_n e1]
        by_cases e0 : j = 4 * n
        · rw [e0, fu_s, if_pos (by omega), show (4 * n) / 4 = n by omega, show (4 * n) % 4 = 0 by omega]
        · rw [fu_n e0]
          by_cases h : 0 ≤ j ∧ j < 4 * n
          · rw [if_pos h, if_pos (by omega)]
          · rw [if_neg h, if_neg (by omega)]
def loS (σ : St) (r : Nat) (W H : Int) (x y : Int64) : St := upA (upA (upA (upA (upA σ 401 r fun _ => W) 402 r fun _ => H) 411 r fun _ => (ll (i64 1) (W * H) - i64 1).toInt) 412 r fun _ => x.toInt) 413 r fun _ => y.toInt
theorem c31 {d : Nat} {k W H : Int} {r : Nat} {T : Tt} {σ : St} {Q : vmO → vmH → Prop} (hr : ob 4 r) (h : wh2 W H) (hQ : ∀ τ, geo τ r W H → (∀ t o, (o ≠ r ∨ (t ≠ 401 ∧ t ≠ 402 ∧ t ≠ 410 ∧ t ≠ 411 ∧ t ≠ 412 ∧ t ≠ 413)) → τ t o = σ t o) → Q (.inl none) (E T τ)) : Ca (d + 1) k 31 [.ref r, .int (i32 W), .int (i32 H)] (E T σ) Q := by
  have hm := wh_mul h
  have hl := lc_ok h
  obtain ⟨h1, h2, h3, h4⟩ := h
  have hr3 := ob_lt hr
  rw [n31 _ _ _ _ _ _ _ _ hr]
  simp (disch := (first | assumption | omega | exact Nat.le_of_ble_eq_true rfl | rfl)) only [w31_0, w31_1, w31_2, w31_5, w31_6, w31_7, w31_10, w31_11, w31_12, w31_13, w31_16, w31_17, w31_18, w31_19, w31_22, w31_23, w31_24, w31_27, w31_28, Ko_n, Ko_v, vX_i, vX_r, vX_l, vX_j, reduceIte]
  rw [c26 hr]
  simp (disch := (first | assumption | omega | exact Nat.le_of_ble_eq_true rfl | rfl)) only [w31_0, w31_1, w31_2, w31_5, w31_6, w31_7, w31_10, w31_11, w31_12, w31_13, w31_16, w31_17, w31_18, w31_19, w31_22, w31_23, w31_24, w31_27, w31_28, Ko_n, Ko_v, vX_i, vX_r, vX_l, vX_j, reduceIte, upA_s, upA_t]
  have l1 : ∀ (m n : Nat), (n : Int) + m = H → Wp (d + 1) M_X4_layOut 29 [.ref r, .int (i32 W), .int (i32 H), .int (i32 n), vmJ, vmJ] [] (E T (upA (upA (upA (upA σ 401 r fun _ => W) 402 r fun _ => H) 411 r fun _ => (ll (i64 1) (W * H) - i64 1).toInt) 412 r fun _ => (lcI W n).toInt)) Q = Wp (d + 1) M_X4_layOut 60 [.ref r, .int (i32 W), .int (i32 H), .int (i32 H), vmJ, vmJ] [] (E T (upA (upA (upA (upA σ 401 r fun _ => W) 402 r fun _ => H) 411 r fun _ => (ll (i64 1) (W * H) - i64 1).toInt) 412 r fun _ => (lcI W H.toNat).toInt)) Q := by
    intro m
    induction m with
    | zero =>
      intro n hn
      have hn' : (n : Int) = H := by omega
      rw [w31_29, hn']
      simp (disch := (first | assumption | omega | exact Nat.le_of_ble_eq_true rfl | rfl)) only [w31_30, w31_31, w31_34, w31_37, w31_38, w31_39, w31_42, w31_43, w31_44, w31_45, w31_48, w31_49, w31_50, w31_51, w31_54, w31_57, Ko_n, Ko_v, vX_i, vX_r, vX_l, vX_j, reduceIte, upA_s, upA_t, Int.le_refl]
      rw [show H.toNat = n by omega]
    | succ m ih =>
      intro n hn
      have ih' := ih (n + 1) (by omega)
      rw [w31_29]
      simp (disch := (first | assumption | omega | exact Nat.le_of_ble_eq_true rfl | rfl)) only [w31_30, w31_31, w31_34, w31_37, w31_38, w31_39, w31_42, w31_43, w31_44, w31_45, w31_48, w31_49, w31_50, w31_51, w31_54, w31_57, Ko_n, Ko_v, vX_i, vX_r, vX_l, vX_j, reduceIte, upA_s, upA_t, upA_upA, show ¬ H ≤ (n : Int) by omega, i64_toInt]
      exact ih'
  have l1' := l1 H.toNat 0 (by omega)
  rw [show ((0 : Nat) : Int) = 0 from rfl, show (lcI W 0) = i64 0 from rfl] at l1'
  rw [l1']
  clear l1 l1'
  simp (disch := (first | assumption | omega | exact Nat.le_of_ble_eq_true rfl | rfl)) only [w31_60, w31_61, w31_62, w31_65, w31_66, w31_69, w31_70, w31_71, w31_72, w31_75, w31_76, Ko_n, Ko_v, vX_i, vX_r, vX_l, vX_j, reduceIte, upA_s, upA_t, i64_toInt]
  have fin : ∀ (m n : Nat) (l4 l5 : Value), (n : Int) + m = W * H → Wp (d + 1) M_X4_layOut 77 [.ref r, .int (i32 W), .int (i32 H), .int (i32 n), l4, l5] [] (E T (upA (loS σ r W H (lcI W H.toNat) (ll (lcI W H.toNat) (W - 1))) 410 r (nbF W H (σ 410 r) n))) Q := by
    intro m
    induction m with
    | zero =>
      intro n l4 l5 hn
      have hn' : (n : Int) = W * H := by omega
      rw [w31_77]
      simp (disch := (first | assumption | omega | exact Nat.le_of_ble_eq_true rfl | rfl)) only [w31_78, w31_79, w31_82, w31_85, w31_86, w31_87, w31_90, w31_92, w31_93, w31_94, w31_97, w31_99, w31_100, w31_103, w31_104, w31_105, w31_106, w31_108, w31_111, w31_112, w31_113, w31_116, w31_117, w31_120, w31_121, w31_122, w31_123, w31_126, w31_127, w31_128, w31_129, w31_130, w31_131, w31_133, w31_136, w31_137, w31_138, w31_139, w31_142, w31_143, w31_144, w31_145, w31_148, w31_149, w31_150, w31_151, w31_152, w31_153, w31_155, w31_156, w31_159, w31_160, w31_161, w31_164, w31_165, w31_166, w31_167, w31_170, w31_171, w31_172, w31_173, w31_176, w31_177, w31_178, w31_179, w31_180, w31_181, w31_183, w31_184, w31_187, w31_188, w31_189, w31_192, w31_193, w31_194, w31_197, w31_198, w31_201, w31_202, w31_203, w31_206, w31_209, Ko_n, Ko_v, vX_i, vX_r, vX_l, vX_j, reduceIte]
      rw [c26 hr]
      have g1 : (upA (loS σ r W H (lcI W H.toNat) (ll (lcI W H.toNat) (W - 1))) 410 r (nbF W H (σ 410 r) n)) 401 r = fun _ => W := by unfold loS; rw [upA_t (by omega), upA_t (by omega), upA_t (by omega), upA_t (by omega), upA_t (by omega), upA_s]
      have g2 : (upA (loS σ r W H (lcI W H.toNat) (ll (lcI W H.toNat) (W - 1))) 410 r (nbF W H (σ 410 r) n)) 402 r = fun _ => H := by unfold loS; rw [upA_t (by omega), upA_t (by omega), upA_t (by omega), upA_t (by omega), upA_s]
      rw [g1, g2]
      simp (disch := (first | assumption | omega | exact Nat.le_of_ble_eq_true rfl | rfl)) only [w31_78, w31_79, w31_82, w31_85, w31_86, w31_87, w31_90, w31_92, w31_93, w31_94, w31_97, w31_99, w31_100, w31_103, w31_104, w31_105, w31_106, w31_108, w31_111, w31_112, w31_113, w31_116, w31_117, w31_120, w31_121, w31_122, w31_123, w31_126, w31_127, w31_128, w31_129, w31_130, w31_131, w31_133, w31_136, w31_137, w31_138, w31_139, w31_142, w31_143, w31_144, w31_145, w31_148, w31_149, w31_150, w31_151, w31_152, w31_153, w31_155, w31_156, w31_159, w31_160, w31_161, w31_164, w31_165, w31_166, w31_167, w31_170, w31_171, w31_172, w31_173, w31_176, w31_177, w31_178, w31_179, w31_180, w31_181, w31_183, w31_184, w31_187, w31_188, w31_189, w31_192, w31_193, w31_194, w31_197, w31_198, w31_201, w31_202, w31_203, w31_206, w31_209, Ko_n, Ko_v, vX_i, vX_r, vX_l, vX_j, reduceIte, hn', Int.le_refl]
      rw [hn'] at g1 g2
      refine hQ _ ⟨by rw [g1], by rw [g2], ?_, ?_, ?_, fun z e z0 z1 e0 e1 => ?_⟩ (fun t o ho => ?_)
      · unfold loS
        rw [upA_t (by omega), upA_t (by omega), upA_t (by omega), upA_s, i64_toInt]
        exact hl.1
      · unfold loS
        rw [upA_t (by omega), upA_t (by omega), upA_s, i64_toInt]
        exact hl.2.1
      · unfold loS
        rw [upA_t (by omega), upA_s, i64_toInt]
        exact hl.2.2
      · rw [upA_s]
        unfold nbF
        rw [if_pos (by omega), show (4 * z + e) / 4 = z by omega, show (4 * z + e) % 4 = e by omega]
      · rcases ho with ho | ho
        · unfold loS
          rw [upA_o ho, upA_o ho, upA_o ho, upA_o ho, upA_o ho, upA_o ho]
        · unfold loS
          rw [upA_t ho.2.2.1, upA_t ho.2.2.2.2.2, upA_t ho.2.2.2.2.1, upA_t ho.2.2.2.1, upA_t ho.2.1, upA_t ho.1]
    | succ m ih =>
      intro n l4 l5 hn
      have ih' := fun l4 l5 => ih (n + 1) l4 l5 (by omega)
      have g1 : ∀ F, (upA (loS σ r W H (lcI W H.toNat) (ll (lcI W H.toNat) (W - 1))) 410 r F) 401 r 0 = W := fun F => by unfold loS; rw [upA_t (by omega), upA_t (by omega), upA_t (by omega), upA_t (by omega), upA_t (by omega), upA_s]
      have g2 : ∀ F, (upA (loS σ r W H (lcI W H.toNat) (ll (lcI W H.toNat) (W - 1))) 410 r F) 402 r 0 = H := fun F => by unfold loS; rw [upA_t (by omega), upA_t (by omega), upA_t (by omega), upA_t (by omega), upA_s]
      rw [w31_77]
      simp (disch := (first | assumption | omega | exact Nat.le_of_ble_eq_true rfl | rfl)) only [w31_78, w31_79, w31_82, w31_85, w31_86, w31_87, w31_90, w31_92, w31_93, w31_94, w31_97, Ko_n, Ko_v, vX_i, vX_r, vX_l, vX_j, reduceIte]
      rw [c26 hr, g1, g2]
      simp (disch := (first | assumption | omega | exact Nat.le_of_ble_eq_true rfl | rfl)) only [w31_78, w31_79, w31_82, w31_85, w31_86, w31_87, w31_90, w31_92, w31_93, w31_94, w31_97, Ko_n, Ko_v, vX_i, vX_r, vX_l, vX_j, reduceIte, show ¬ W * H ≤ (n : Int) by omega]
      rw [c29 hr (by rw [g1]; omega) (by rw [g1]; omega) (by omega) (by omega), g1]
      simp (disch := (first | assumption | omega | exact Nat.le_of_ble_eq_true rfl | rfl)) only [w31_78, w31_79, w31_82, w31_85, w31_86, w31_87, w31_90, w31_92, w31_93, w31_94, w31_97, Ko_n, Ko_v, vX_i, vX_r, vX_l, vX_j, reduceIte]
      rw [c30 hr (by rw [g1]; omega) (by rw [g1]; omega) (by omega) (by omega), g1]
      simp (disch := (first | assumption | omega | exact Nat.le_of_ble_eq_true rfl | rfl)) only [w31_78, w31_79, w31_82, w31_85, w31_86, w31_87, w31_90, w31_92, w31_93, w31_94, w31_97, Ko_n, Ko_v, vX_i, vX_r, vX_l, vX_j, reduceIte]
      rw [show ((n + 1 : Nat) : Int) = (n : Int) + 1 by omega, ← nbF_s (by omega)] at ih'
      have b1 := Int.emod_nonneg (n : Int) (show W ≠ 0 by omega)
      have b2 := Int.emod_lt_of_pos (n : Int) (show 0 < W by omega)
      have b3 : 0 ≤ (n : Int) / W := Int.ediv_nonneg (by omega) (by omega)
      have b4 : (n : Int) / W < 36 := by
        have := Int.ediv_le_self W (show (0 : Int) ≤ n by omega)
        omega
      have s0 : ∀ F : Int → Int, Wp (d + 1) M_X4_layOut 99 [.ref r, .int (i32 W), .int (i32 H), .int (i32 n), .int (i32 ((n : Int) % W)), .int (i32 ((n : Int) / W))] [] (E T (upA (loS σ r W H (lcI W H.toNat) (ll (lcI W H.toNat) (W - 1))) 410 r F)) Q = Wp (d + 1) M_X4_layOut 122 [.ref r, .int (i32 W), .int (i32 H), .int (i32 n), .int (i32 ((n : Int) % W)), .int (i32 ((n : Int) / W))] [] (E T (upA (loS σ r W H (lcI W H.toNat) (ll (lcI W H.toNat) (W - 1))) 410 r (fu F (4 * (n : Int)) (nbC W H n 0)))) Q := by
        intro F
        rw [show nbC W H n 0 = if 0 < (n : Int) / W then (n : Int) - W else -1 from rfl]
        by_cases a : (n : Int) / W ≤ 0
        · rw [if_neg (by omega)]
          simp (disch := (first | assumption | omega | exact Nat.le_of_ble_eq_true rfl | rfl)) only [w31_99, w31_100, w31_103, w31_104, w31_105, w31_106, w31_108, w31_111, w31_112, w31_113, w31_116, w31_117, w31_120, w31_121, Ko_n, Ko_v, vX_i, vX_r, vX_l, vX_j, reduceIte, a, g1, g2, upA_s, upA_upA]
        · rw [if_pos (by omega)]
          simp (disch := (first | assumption | omega | exact Nat.le_of_ble_eq_true rfl | rfl)) only [w31_99, w31_100, w31_103, w31_104, w31_105, w31_106, w31_108, w31_111, w31_112, w31_113, w31_116, w31_117, w31_120, w31_121, Ko_n, Ko_v, vX_i, vX_r, vX_l, vX_j, reduceIte, a, g1, g2, upA_s, upA_upA]
      have s1 : ∀ F : Int → Int, Wp (d + 1) M_X4_layOut 122 [.ref r, .int (i32 W), .int (i32 H), .int (i32 n), .int (i32 ((n : Int) % W)), .int (i32 ((n : Int) / W))] [] (E T (upA (loS σ r W H (lcI W H.toNat) (ll (lcI W H.toNat) (W - 1))) 410 r F)) Q = Wp (d + 1) M_X4_layOut 144 [.ref r, .int (i32 W), .int (i32 H), .int (i32 n), .int (i32 ((n : Int) % W)), .int (i32 ((n : Int) / W))] [] (E T (upA (loS σ r W H (lcI W H.toNat) (ll (lcI W H.toNat) (W - 1))) 410 r (fu F (4 * (n : Int) + 1) (nbC W H n 1)))) Q := by
        intro F
        rw [show nbC W H n 1 = if 0 < (n : Int) % W then (n : Int) - 1 else -1 from rfl]
        by_cases a : (n : Int) % W ≤ 0
        · rw [if_neg (by omega)]
          simp (disch := (first | assumption | omega | exact Nat.le_of_ble_eq_true rfl | rfl)) only [w31_122, w31_123, w31_126, w31_127, w31_128, w31_129, w31_130, w31_131, w31_133, w31_136, w31_137, w31_138, w31_139, w31_142, w31_143, Ko_n, Ko_v, vX_i, vX_r, vX_l, vX_j, reduceIte, a, g1, g2, upA_s, upA_upA]
        · rw [if_pos (by omega)]
          simp (disch := (first | assumption | omega | exact Nat.le_of_ble_eq_true rfl | rfl)) only [w31_122, w31_123, w31_126, w31_127, w31_128, w31_129, w31_130, w31_131, w31_133, w31_136, w31_137, w31_138, w31_139, w31_142, w31_143, Ko_n, Ko_v, vX_i, vX_r, vX_l, vX_j, reduceIte, a, g1, g2, upA_s, upA_upA]
      have s2 : ∀ F : Int → Int, Wp (d + 1) M_X4_layOut 144 [.ref r, .int (i32 W), .int (i32 H), .int (i32 n), .int (i32 ((n : Int) % W)), .int (i32 ((n : Int) / W))] [] (E T (upA (loS σ r W H (lcI W H.toNat) (ll (lcI W H.toNat) (W - 1))) 410 r F)) Q = Wp (d + 1) M_X4_layOut 172 [.ref r, .int (i32 W), .int (i32 H), .int (i32 n), .int (i32 ((n : Int) % W)), .int (i32 ((n : Int) / W))] [] (E T (upA (loS σ r W H (lcI W H.toNat) (ll (lcI W H.toNat) (W - 1))) 410 r (fu F (4 * (n : Int) + 2) (nbC W H n 2)))) Q := by
        intro F
        rw [show nbC W H n 2 = if (n : Int) % W < W - 1 then (n : Int) + 1 else -1 from rfl]
        by_cases a : W - 1 ≤ (n : Int) % W
        · rw [if_neg (by omega)]
          simp (disch := (first | assumption | omega | exact Nat.le_of_ble_eq_true rfl | rfl)) only [w31_144, w31_145, w31_148, w31_149, w31_150, w31_151, w31_152, w31_153, w31_155, w31_156, w31_159, w31_160, w31_161, w31_164, w31_165, w31_166, w31_167, w31_170, w31_171, Ko_n, Ko_v, vX_i, vX_r, vX_l, vX_j, reduceIte, a, g1, g2, upA_s, upA_upA]
        · rw [if_pos (by omega)]
          simp (disch := (first | assumption | omega | exact Nat.le_of_ble_eq_true rfl | rfl)) only [w31_144, w31_145, w31_148, w31_149, w31_150, w31_151, w31_152, w31_153, w31_155, w31_156, w31_159, w31_160, w31_161, w31_164, w31_165, w31_166, w31_167, w31_170, w31_171, Ko_n, Ko_v, vX_i, vX_r, vX_l, vX_j, reduceIte, a, g1, g2, upA_s, upA_upA]
      have s3 : ∀ F : Int → Int, Wp (d + 1) M_X4_layOut 172 [.ref r, .int (i32 W), .int (i32 H), .int (i32 n), .int (i32 ((n : Int) % W)), .int (i32 ((n : Int) / W))] [] (E T (upA (loS σ r W H (lcI W H.toNat) (ll (lcI W H.toNat) (W - 1))) 410 r F)) Q = Wp (d + 1) M_X4_layOut 203 [.ref r, .int (i32 W), .int (i32 H), .int (i32 n), .int (i32 ((n : Int) % W)), .int (i32 ((n : Int) / W))] [] (E T (upA (loS σ r W H (lcI W H.toNat) (ll (lcI W H.toNat) (W - 1))) 410 r (fu F (4 * (n : Int) + 3) (nbC W H n 3)))) Q := by
        intro F
        rw [show nbC W H n 3 = if (n : Int) / W < H - 1 then (n : Int) + W else -1 from rfl]
        by_cases a : H - 1 ≤ (n : Int) / W
        · rw [if_neg (by omega)]
          simp (disch := (first | assumption | omega | exact Nat.le_of_ble_eq_true rfl | rfl)) only [w31_172, w31_173, w31_176, w31_177, w31_178, w31_179, w31_180, w31_181, w31_183, w31_184, w31_187, w31_188, w31_189, w31_192, w31_193, w31_194, w31_197, w31_198, w31_201, w31_202, Ko_n, Ko_v, vX_i, vX_r, vX_l, vX_j, reduceIte, a, g1, g2, upA_s, upA_upA]
        · rw [if_pos (by omega)]
          simp (disch := (first | assumption | omega | exact Nat.le_of_ble_eq_true rfl | rfl)) only [w31_172, w31_173, w31_176, w31_177, w31_178, w31_179, w31_180, w31_181, w31_183, w31_184, w31_187, w31_188, w31_189, w31_192, w31_193, w31_194, w31_197, w31_198, w31_201, w31_202, Ko_n, Ko_v, vX_i, vX_r, vX_l, vX_j, reduceIte, a, g1, g2, upA_s, upA_upA]
      rw [s0, s1, s2, s3]
      simp (disch := (first | assumption | omega | exact Nat.le_of_ble_eq_true rfl | rfl)) only [w31_203, w31_206, w31_209, Ko_n, Ko_v, vX_i, vX_r, vX_l, vX_j, reduceIte]
      exact ih' _ _
  have := fin (W * H).toNat 0 vmJ vmJ (by omega)
  rw [show ((0 : Nat) : Int) = 0 from rfl, nbF_0, show (upA (loS σ r W H (lcI W H.toNat) (ll (lcI W H.toNat) (W - 1))) 410 r (σ 410 r)) = loS σ r W H (lcI W H.toNat) (ll (lcI W H.toNat) (W - 1)) by
    have e1 : σ 410 r = loS σ r W H (lcI W H.toNat) (ll (lcI W H.toNat) (W - 1)) 410 r := by unfold loS; rw [upA_t (by omega), upA_t (by omega), upA_t (by omega), upA_t (by omega), upA_t (by omega)]
    conv => lhs; rw [e1]
    exact upA_self] at this
  exact this
