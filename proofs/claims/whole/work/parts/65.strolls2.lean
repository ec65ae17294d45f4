/-! ===== Strolls: prepare ===== -/
/-- rows of there and thence, up to s -/
def thU (W H : Int) (c : Int → Int) (z : Int) (n : Nat) (TH : Int → Int) : Prop := ∀ s : Nat, s ≤ n → i64 (TH s) = bs (th W H c z s)
def tcU (W H : Int) (c : Int → Int) (z : Int) (n : Nat) (TC : Int → Int) : Prop := ∀ s : Nat, s ≤ n → i64 (TC s) = bs (tc W H c z s)
def skT (σ : St) (C : Int → Int) (a z t : Int) : St := upA (upA (upA (upA σ 1000 160 C) 905 155 fun _ => a) 906 155 fun _ => z) 907 155 fun _ => t
theorem c88 {d t N : Nat} {k W H w z : Int} {p s : Nat} {T : Tt} {σ : St} {Q : vmO → vmH → Prop} (hp : ob 4 p) (hs : ob 7 s) (hP : plK σ p W H) (hS : scK σ s) (hN : (N : Int) = W * H) (w0 : 0 ≤ w) (w1 : w < 5) (a0 : 0 ≤ σ 702 s w) (a1 : σ 702 s w < W * H) (z0 : 0 ≤ z) (z1 : z < W * H) (ht : t ≤ 30)
    (hQ : ∀ C OC TH TC, agr (W * H) C (prc σ p s (frB (σ 405 p 0) w)) → thU W H (prc σ p s (frB (σ 405 p 0) w)) (σ 702 s w) t TH → tcU W H (prc σ p s (frB (σ 405 p 0) w)) z t TC → Q (.inl none) (E T (skS (skT σ C (σ 702 s w) z t) OC TH TC))) : Ca (d + 3) k 88 [.ref 155, .ref p, .ref s, .int (i32 w), .int (i32 z), .int (i32 t)] (E T σ) Q := by
  have hp3 := ob_lt hp
  have hs3 := ob_lt hs
  have hr := ob_sk
  have hrw := ob_sw
  obtain ⟨hg, h, m0, m1, u0, u1⟩ := hP
  obtain ⟨hf, htk, n0, n1⟩ := hS
  have hm := wh_mul h
  obtain ⟨c, hc⟩ : ∃ c, c = prc σ p s (frB (σ 405 p 0) w) := ⟨_, rfl⟩
  have hcs0 : csIn c (W * H) := by rw [hc]; intro j j0 j1; exact cst_in hf htk j0 (by omega)
  rw [← hc] at hQ
  rw [n88 _ _ _ _ _ _ _ _ _ _ _ hr]
  simp (disch := (first | assumption | omega | exact Nat.le_of_ble_eq_true rfl | rfl)) only [w88_0, w88_1, w88_4, w88_5, w88_6, w88_7, w88_8, w88_11, w88_14, w88_15, w88_16, w88_19, w88_20, w88_21, w88_24, w88_25, w88_27, w88_30, w88_31, w88_33, w88_36, w88_37, w88_40, w88_41, w88_44, w88_45, w88_49, w88_50, w88_53, w88_56, w88_57, w88_60, w88_63, w88_65, w88_66, w88_68, w88_70, w88_71, w88_74, w88_76, w88_78, w88_81, w88_82, w88_85, w88_87, w88_88, w88_89, w88_90, w88_92, w88_93, w88_94, w88_95, w88_98, w88_101, w88_102, w88_105, w88_106, w88_107, w88_108, w88_111, w88_112, w88_113, w88_114, w88_117, w88_118, w88_119, w88_120, w88_123, w88_124, w88_125, w88_126, w88_130, w88_131, w88_134, w88_137, w88_138, w88_141, w88_143, w88_144, w88_145, w88_146, w88_149, w88_151, w88_152, w88_153, w88_154, w88_158, w88_160, w88_163, w88_164, w88_167, w88_169, w88_170, w88_171, w88_175, w88_176, w88_179, w88_181, w88_182, w88_183, w88_184, w88_185, w88_188, w88_190, w88_192, w88_193, w88_194, w88_197, w88_198, w88_201, w88_203, w88_204, w88_205, w88_206, w88_207, w88_208, w88_211, w88_213, w88_214, w88_215, w88_216, w88_217, w88_220, w88_222, w88_224, w88_225, w88_226, w88_227, w88_230, w88_232, w88_233, w88_234, w88_237, w88_238, w88_239, w88_242, w88_245, w88_248, w88_251, Ko_n, Ko_v, vX_i, vX_r, vX_l, vX_j, reduceIte]
  rw [c27 hp u0 u1 w0 w1]
  simp (disch := (first | assumption | omega | exact Nat.le_of_ble_eq_true rfl | rfl)) only [w88_0, w88_1, w88_4, w88_5, w88_6, w88_7, w88_8, w88_11, w88_14, w88_15, w88_16, w88_19, w88_20, w88_21, w88_24, w88_25, w88_27, w88_30, w88_31, w88_33, w88_36, w88_37, w88_40, w88_41, w88_44, w88_45, w88_49, w88_50, w88_53, w88_56, w88_57, w88_60, w88_63, w88_65, w88_66, w88_68, w88_70, w88_71, w88_74, w88_76, w88_78, w88_81, w88_82, w88_85, w88_87, w88_88, w88_89, w88_90, w88_92, w88_93, w88_94, w88_95, w88_98, w88_101, w88_102, w88_105, w88_106, w88_107, w88_108, w88_111, w88_112, w88_113, w88_114, w88_117, w88_118, w88_119, w88_120, w88_123, w88_124, w88_125, w88_126, w88_130, w88_131, w88_134, w88_137, w88_138, w88_141, w88_143, w88_144, w88_145, w88_146, w88_149, w88_151, w88_152, w88_153, w88_154, w88_158, w88_160, w88_163, w88_164, w88_167, w88_169, w88_170, w88_171, w88_175, w88_176, w88_179, w88_181, w88_182, w88_183, w88_184, w88_185, w88_188, w88_190, w88_192, w88_193, w88_194, w88_197, w88_198, w88_201, w88_203, w88_204, w88_205, w88_206, w88_207, w88_208, w88_211, w88_213, w88_214, w88_215, w88_216, w88_217, w88_220, w88_222, w88_224, w88_225, w88_226, w88_227, w88_230, w88_232, w88_233, w88_234, w88_237, w88_238, w88_239, w88_242, w88_245, w88_248, w88_251, Ko_n, Ko_v, vX_i, vX_r, vX_l, vX_j, reduceIte]
  rw [c95 (N := W * H) hrw hp hs hf htk m0 m1 n0 (by omega) (by rw [hg.1, hg.2.1]) (by omega) (by omega)]
  obtain ⟨C, hC⟩ : ∃ C, C = cp (cst (σ 700 s) (σ 701 s) (wiB (σ 403 p 0) (σ 705 s 0)) (frB (σ 405 p 0) w)) (σ 1000 160) (W * H) := ⟨_, rfl⟩
  rw [← hC]
  have hagr : agr (W * H) C c := by intro j j0 j1; rw [hC, hc, cp_lt j0 j1]; rfl
  have hcs : csIn C (W * H) := by intro j j0 j1; rw [hagr j j0 j1]; exact hcs0 j j0 j1
  simp (disch := (first | assumption | omega | exact Nat.le_of_ble_eq_true rfl | rfl)) only [w88_0, w88_1, w88_4, w88_5, w88_6, w88_7, w88_8, w88_11, w88_14, w88_15, w88_16, w88_19, w88_20, w88_21, w88_24, w88_25, w88_27, w88_30, w88_31, w88_33, w88_36, w88_37, w88_40, w88_41, w88_44, w88_45, w88_49, w88_50, w88_53, w88_56, w88_57, w88_60, w88_63, w88_65, w88_66, w88_68, w88_70, w88_71, w88_74, w88_76, w88_78, w88_81, w88_82, w88_85, w88_87, w88_88, w88_89, w88_90, w88_92, w88_93, w88_94, w88_95, w88_98, w88_101, w88_102, w88_105, w88_106, w88_107, w88_108, w88_111, w88_112, w88_113, w88_114, w88_117, w88_118, w88_119, w88_120, w88_123, w88_124, w88_125, w88_126, w88_130, w88_131, w88_134, w88_137, w88_138, w88_141, w88_143, w88_144, w88_145, w88_146, w88_149, w88_151, w88_152, w88_153, w88_154, w88_158, w88_160, w88_163, w88_164, w88_167, w88_169, w88_170, w88_171, w88_175, w88_176, w88_179, w88_181, w88_182, w88_183, w88_184, w88_185, w88_188, w88_190, w88_192, w88_193, w88_194, w88_197, w88_198, w88_201, w88_203, w88_204, w88_205, w88_206, w88_207, w88_208, w88_211, w88_213, w88_214, w88_215, w88_216, w88_217, w88_220, w88_222, w88_224, w88_225, w88_226, w88_227, w88_230, w88_232, w88_233, w88_234, w88_237, w88_238, w88_239, w88_242, w88_245, w88_248, w88_251, Ko_n, Ko_v, vX_i, vX_r, vX_l, vX_j, reduceIte, upA_t]
  obtain ⟨τ, hτ⟩ : ∃ τ, τ = upA (upA (upA (upA σ 1000 160 C) 905 155 fun _ => σ 702 s w) 906 155 fun _ => z) 907 155 fun _ => (t : Int) := ⟨_, rfl⟩
  have hQ' : ∀ OC TH TC, thU W H c (σ 702 s w) t TH → tcU W H c z t TC → Q (.inl none) (E T (skS τ OC TH TC)) := by
    intro OC TH TC hTH hTC
    rw [hτ]
    exact hQ C OC TH TC hagr hTH hTC
  rw [← hτ]
  have t0 : τ 1000 160 = C := by rw [hτ]; simp (disch := omega) only [upA_t, upA_s]
  have t5 : τ 905 155 = fun _ => σ 702 s w := by rw [hτ]; simp (disch := omega) only [upA_t, upA_s]
  have t6 : τ 906 155 = fun _ => z := by rw [hτ]; simp (disch := omega) only [upA_t, upA_s]
  have t7 : τ 907 155 = fun _ => (t : Int) := by rw [hτ]; simp (disch := omega) only [upA_s]
  have tt : ∀ x o, x < 900 → τ x o = σ x o := by intro x o hx; rw [hτ]; simp (disch := omega) only [upA_t]
  have hgτ : geo τ p W H := geo_t hg (tt _ _ (by omega)) (tt _ _ (by omega)) (tt _ _ (by omega)) (tt _ _ (by omega)) (tt _ _ (by omega)) (tt _ _ (by omega))
  have hgs : ∀ OC TH TC, geo (skS τ OC TH TC) p W H := fun OC TH TC => geo_t hgτ (skt (by omega) (by omega) (by omega)) (skt (by omega) (by omega) (by omega)) (skt (by omega) (by omega) (by omega)) (skt (by omega) (by omega) (by omega)) (skt (by omega) (by omega) (by omega)) (skt (by omega) (by omega) (by omega))
  have hcell : τ 401 p 0 * τ 402 p 0 = N := by rw [hgτ.1, hgτ.2.1, hN]
  -- the inner row
  have loopC : ∀ (u : Nat) (OC : Int → Int), 1 ≤ u → u ≤ t → ocU c (W * H) OC → (∀ TH TC l7, thU W H c (σ 702 s w) u TH → tcU W H c z u TC → Wp (d + 3) M_X9_prepare 128 [.ref 155, .ref p, .ref s, .int (i32 w), .int (i32 z), .int (i32 t), .int (i32 ((u + 1 : Nat) : Int)), l7] [] (E T (skS τ OC TH TC)) Q) → ∀ (m q : Nat) (TH TC : Int → Int), q + m = u + 1 → 1 ≤ q → thU W H c (σ 702 s w) (u - 1) TH → tcU W H c z (u - 1) TC → i64 (TH u) = bs (thQ W H c (σ 702 s w) u (q - 1)) → i64 (TC u) = bs (tcQ W H c z u (q - 1)) → Wp (d + 3) M_X9_prepare 156 [.ref 155, .ref p, .ref s, .int (i32 w), .int (i32 z), .int (i32 t), .int (i32 u), .int (i32 q)] [] (E T (skS τ OC TH TC)) Q := by
    intro u OC u0 u1 hOC hgo m
    induction m with
    | zero =>
      intro q TH TC hq q0 hTH hTC h1 h2
      have hq : q = u + 1 := by omega
      subst hq
      rw [show (((u + 1 : Nat) : Int) - 1) = (u : Int) by omega] at h1 h2
      rw [w88_156]
      simp (disch := (first | assumption | omega | exact Nat.le_of_ble_eq_true rfl | rfl)) only [w88_0, w88_1, w88_4, w88_5, w88_6, w88_7, w88_8, w88_11, w88_14, w88_15, w88_16, w88_19, w88_20, w88_21, w88_24, w88_25, w88_27, w88_30, w88_31, w88_33, w88_36, w88_37, w88_40, w88_41, w88_44, w88_45, w88_49, w88_50, w88_53, w88_56, w88_57, w88_60, w88_63, w88_65, w88_66, w88_68, w88_70, w88_71, w88_74, w88_76, w88_78, w88_81, w88_82, w88_85, w88_87, w88_88, w88_89, w88_90, w88_92, w88_93, w88_94, w88_95, w88_98, w88_101, w88_102, w88_105, w88_106, w88_107, w88_108, w88_111, w88_112, w88_113, w88_114, w88_117, w88_118, w88_119, w88_120, w88_123, w88_124, w88_125, w88_126, w88_130, w88_131, w88_134, w88_137, w88_138, w88_141, w88_143, w88_144, w88_145, w88_146, w88_149, w88_151, w88_152, w88_153, w88_154, w88_158, w88_160, w88_163, w88_164, w88_167, w88_169, w88_170, w88_171, w88_175, w88_176, w88_179, w88_181, w88_182, w88_183, w88_184, w88_185, w88_188, w88_190, w88_192, w88_193, w88_194, w88_197, w88_198, w88_201, w88_203, w88_204, w88_205, w88_206, w88_207, w88_208, w88_211, w88_213, w88_214, w88_215, w88_216, w88_217, w88_220, w88_222, w88_224, w88_225, w88_226, w88_227, w88_230, w88_232, w88_233, w88_234, w88_237, w88_238, w88_239, w88_242, w88_245, w88_248, w88_251, Ko_n, Ko_v, vX_i, vX_r, vX_l, vX_j, reduceIte, show (u : Int) < ((u + 1 : Nat) : Int) by omega]
      refine hgo TH TC _ (fun x hx => ?_) (fun x hx => ?_)
      · by_cases hxu : x = u
        · rw [hxu, h1, thQ_end u0]
        · exact hTH x (by omega)
      · by_cases hxu : x = u
        · rw [hxu, h2, tcQ_end u0]
        · exact hTC x (by omega)
    | succ m ih =>
      intro q TH TC hq q0 hTH hTC h1 h2
      have hoq := hOC q (by omega) (by omega)
      rw [if_pos (by omega : (1 : Int) ≤ q)] at hoq
      have hs1 := hTH (u - q) (by omega)
      have hs2 := hTC (u - q) (by omega)
      rw [show ((u - q : Nat) : Int) = (u : Int) - q by omega] at hs1 hs2
      have hst := thQ_step (W := W) (H := H) (z := σ 702 s w) (c := c) (s := u) (q := q) q0 (by omega)
      have hst2 := tcQ_step (z := z) (c := c) (s := u) (q := q) h q0 (by omega)
      have e1 : ((q + 1 : Nat) : Int) - 1 = q := by omega
      rw [w88_156]
      by_cases hz : i64 (OC q) = i64 0
      · have hemp : ∀ k, 0 ≤ k → k < 64 → ocB c (W * H) q k = false := by
          intro k k0 k1
          rw [hoq, bs_none] at hz
          exact bs_inj hz k0 k1
        have g1 : bs (thQ W H c (σ 702 s w) u (q - 1)) = bs (thQ W H c (σ 702 s w) u q) := by
          rw [← hst, bs_congr (p := fun k => nbB W H (th W H c (σ 702 s w) (u - q)) k && ocB c (W * H) q k) (q := fun _ => false) (fun k k0 k1 => by rw [hemp k k0 k1, Bool.and_false]), bs_or]
          exact bs_congr fun k _ _ => by simp
        have g2 : bs (tcQ W H c z u (q - 1)) = bs (tcQ W H c z u q) := by
          rw [← hst2, bs_congr (p := nbB W H (fun b => tc W H c z (u - q) b && ocB c (W * H) q b)) (q := fun _ => false), bs_or]
          · exact bs_congr fun k _ _ => by simp
          · intro k k0 k1
            rw [nbB_congr h (q' := fun _ => false) (fun b b0 b1 => by rw [hemp b b0 (by omega), Bool.and_false])]
            unfold nbB nbE
            simp
        have ih' := ih (q + 1) TH TC (by omega) (by omega) hTH hTC (by rw [e1, ← g1]; exact h1) (by rw [e1, ← g2]; exact h2)
        simp (disch := (first | assumption | omega | exact Nat.le_of_ble_eq_true rfl | rfl)) only [w88_0, w88_1, w88_4, w88_5, w88_6, w88_7, w88_8, w88_11, w88_14, w88_15, w88_16, w88_19, w88_20, w88_21, w88_24, w88_25, w88_27, w88_30, w88_31, w88_33, w88_36, w88_37, w88_40, w88_41, w88_44, w88_45, w88_49, w88_50, w88_53, w88_56, w88_57, w88_60, w88_63, w88_65, w88_66, w88_68, w88_70, w88_71, w88_74, w88_76, w88_78, w88_81, w88_82, w88_85, w88_87, w88_88, w88_89, w88_90, w88_92, w88_93, w88_94, w88_95, w88_98, w88_101, w88_102, w88_105, w88_106, w88_107, w88_108, w88_111, w88_112, w88_113, w88_114, w88_117, w88_118, w88_119, w88_120, w88_123, w88_124, w88_125, w88_126, w88_130, w88_131, w88_134, w88_137, w88_138, w88_141, w88_143, w88_144, w88_145, w88_146, w88_149, w88_151, w88_152, w88_153, w88_154, w88_158, w88_160, w88_163, w88_164, w88_167, w88_169, w88_170, w88_171, w88_175, w88_176, w88_179, w88_181, w88_182, w88_183, w88_184, w88_185, w88_188, w88_190, w88_192, w88_193, w88_194, w88_197, w88_198, w88_201, w88_203, w88_204, w88_205, w88_206, w88_207, w88_208, w88_211, w88_213, w88_214, w88_215, w88_216, w88_217, w88_220, w88_222, w88_224, w88_225, w88_226, w88_227, w88_230, w88_232, w88_233, w88_234, w88_237, w88_238, w88_239, w88_242, w88_245, w88_248, w88_251, Ko_n, Ko_v, vX_i, vX_r, vX_l, vX_j, reduceIte, show ¬ (u : Int) < (q : Int) by omega, sk0, hz]
        exact ih'
      · have ih' := ih (q + 1) (fu TH u (bs (thQ W H c (σ 702 s w) u q)).toInt) (fu TC u (bs (tcQ W H c z u q)).toInt) (by omega) (by omega) (fun x hx => by rw [fu_n (by omega)]; exact hTH x hx) (fun x hx => by rw [fu_n (by omega)]; exact hTC x hx) (by rw [fu_s, i64_toInt, e1]) (by rw [fu_s, i64_toInt, e1])
        simp (disch := (first | assumption | omega | exact Nat.le_of_ble_eq_true rfl | rfl)) only [w88_0, w88_1, w88_4, w88_5, w88_6, w88_7, w88_8, w88_11, w88_14, w88_15, w88_16, w88_19, w88_20, w88_21, w88_24, w88_25, w88_27, w88_30, w88_31, w88_33, w88_36, w88_37, w88_40, w88_41, w88_44, w88_45, w88_49, w88_50, w88_53, w88_56, w88_57, w88_60, w88_63, w88_65, w88_66, w88_68, w88_70, w88_71, w88_74, w88_76, w88_78, w88_81, w88_82, w88_85, w88_87, w88_88, w88_89, w88_90, w88_92, w88_93, w88_94, w88_95, w88_98, w88_101, w88_102, w88_105, w88_106, w88_107, w88_108, w88_111, w88_112, w88_113, w88_114, w88_117, w88_118, w88_119, w88_120, w88_123, w88_124, w88_125, w88_126, w88_130, w88_131, w88_134, w88_137, w88_138, w88_141, w88_143, w88_144, w88_145, w88_146, w88_149, w88_151, w88_152, w88_153, w88_154, w88_158, w88_160, w88_163, w88_164, w88_167, w88_169, w88_170, w88_171, w88_175, w88_176, w88_179, w88_181, w88_182, w88_183, w88_184, w88_185, w88_188, w88_190, w88_192, w88_193, w88_194, w88_197, w88_198, w88_201, w88_203, w88_204, w88_205, w88_206, w88_207, w88_208, w88_211, w88_213, w88_214, w88_215, w88_216, w88_217, w88_220, w88_222, w88_224, w88_225, w88_226, w88_227, w88_230, w88_232, w88_233, w88_234, w88_237, w88_238, w88_239, w88_242, w88_245, w88_248, w88_251, Ko_n, Ko_v, vX_i, vX_r, vX_l, vX_j, reduceIte, show ¬ (u : Int) < (q : Int) by omega, sk0, hz, sk1, hs1]
        rw [c32 (σ := skS τ OC TH TC) hp (hgs OC TH TC) h (fun k _ _ hk => th_in a1 _ k hk)]
        simp (disch := (first | assumption | omega | exact Nat.le_of_ble_eq_true rfl | rfl)) only [w88_0, w88_1, w88_4, w88_5, w88_6, w88_7, w88_8, w88_11, w88_14, w88_15, w88_16, w88_19, w88_20, w88_21, w88_24, w88_25, w88_27, w88_30, w88_31, w88_33, w88_36, w88_37, w88_40, w88_41, w88_44, w88_45, w88_49, w88_50, w88_53, w88_56, w88_57, w88_60, w88_63, w88_65, w88_66, w88_68, w88_70, w88_71, w88_74, w88_76, w88_78, w88_81, w88_82, w88_85, w88_87, w88_88, w88_89, w88_90, w88_92, w88_93, w88_94, w88_95, w88_98, w88_101, w88_102, w88_105, w88_106, w88_107, w88_108, w88_111, w88_112, w88_113, w88_114, w88_117, w88_118, w88_119, w88_120, w88_123, w88_124, w88_125, w88_126, w88_130, w88_131, w88_134, w88_137, w88_138, w88_141, w88_143, w88_144, w88_145, w88_146, w88_149, w88_151, w88_152, w88_153, w88_154, w88_158, w88_160, w88_163, w88_164, w88_167, w88_169, w88_170, w88_171, w88_175, w88_176, w88_179, w88_181, w88_182, w88_183, w88_184, w88_185, w88_188, w88_190, w88_192, w88_193, w88_194, w88_197, w88_198, w88_201, w88_203, w88_204, w88_205, w88_206, w88_207, w88_208, w88_211, w88_213, w88_214, w88_215, w88_216, w88_217, w88_220, w88_222, w88_224, w88_225, w88_226, w88_227, w88_230, w88_232, w88_233, w88_234, w88_237, w88_238, w88_239, w88_242, w88_245, w88_248, w88_251, Ko_n, Ko_v, vX_i, vX_r, vX_l, vX_j, reduceIte, sk0, sk1, hoq, bs_and, h1, hst, su1, sk2, hs2, h2]
        rw [c32 (q := fun k => tc W H c z (u - q) k && ocB c (W * H) q k) (σ := skS τ OC (fu TH u (bs (thQ W H c (σ 702 s w) u q)).toInt) TC) hp (hgs OC _ TC) h (fun k _ _ hk => by
          rw [Bool.and_eq_true] at hk
          exact tc_in z1 _ k hk.1)]
        simp (disch := (first | assumption | omega | exact Nat.le_of_ble_eq_true rfl | rfl)) only [w88_0, w88_1, w88_4, w88_5, w88_6, w88_7, w88_8, w88_11, w88_14, w88_15, w88_16, w88_19, w88_20, w88_21, w88_24, w88_25, w88_27, w88_30, w88_31, w88_33, w88_36, w88_37, w88_40, w88_41, w88_44, w88_45, w88_49, w88_50, w88_53, w88_56, w88_57, w88_60, w88_63, w88_65, w88_66, w88_68, w88_70, w88_71, w88_74, w88_76, w88_78, w88_81, w88_82, w88_85, w88_87, w88_88, w88_89, w88_90, w88_92, w88_93, w88_94, w88_95, w88_98, w88_101, w88_102, w88_105, w88_106, w88_107, w88_108, w88_111, w88_112, w88_113, w88_114, w88_117, w88_118, w88_119, w88_120, w88_123, w88_124, w88_125, w88_126, w88_130, w88_131, w88_134, w88_137, w88_138, w88_141, w88_143, w88_144, w88_145, w88_146, w88_149, w88_151, w88_152, w88_153, w88_154, w88_158, w88_160, w88_163, w88_164, w88_167, w88_169, w88_170, w88_171, w88_175, w88_176, w88_179, w88_181, w88_182, w88_183, w88_184, w88_185, w88_188, w88_190, w88_192, w88_193, w88_194, w88_197, w88_198, w88_201, w88_203, w88_204, w88_205, w88_206, w88_207, w88_208, w88_211, w88_213, w88_214, w88_215, w88_216, w88_217, w88_220, w88_222, w88_224, w88_225, w88_226, w88_227, w88_230, w88_232, w88_233, w88_234, w88_237, w88_238, w88_239, w88_242, w88_245, w88_248, w88_251, Ko_n, Ko_v, vX_i, vX_r, vX_l, vX_j, reduceIte, hst2, su2]
        exact ih'
  have thq0 : ∀ u : Nat, i64 0 = bs (thQ W H c (σ 702 s w) u (((1 : Nat) : Int) - 1)) := by
    intro u
    rw [bs_none]
    apply bs_congr
    intro k _ _
    unfold thQ
    rw [decide_eq_false (by omega), Bool.false_and]
  have tcq0 : ∀ u : Nat, i64 0 = bs (tcQ W H c z u (((1 : Nat) : Int) - 1)) := by
    intro u
    rw [bs_none]
    apply bs_congr
    intro k _ _
    unfold tcQ
    rw [nbB_congr h (q' := fun _ => false) (fun b b0 b1 => by rw [decide_eq_false (by omega), Bool.false_and])]
    unfold nbB nbE
    simp
  have loopB : ∀ (m u : Nat) (OC TH TC : Int → Int) (l7 : Value), u + m = t + 1 → 1 ≤ u → ocU c (W * H) OC → thU W H c (σ 702 s w) (u - 1) TH → tcU W H c z (u - 1) TC → Wp (d + 3) M_X9_prepare 128 [.ref 155, .ref p, .ref s, .int (i32 w), .int (i32 z), .int (i32 t), .int (i32 u), l7] [] (E T (skS τ OC TH TC)) Q := by
    intro m
    induction m with
    | zero =>
      intro u OC TH TC l7 hu u0 hOC hTH hTC
      have hu : u = t + 1 := by omega
      subst hu
      rw [w88_128]
      simp (disch := (first | assumption | omega | exact Nat.le_of_ble_eq_true rfl | rfl)) only [w88_0, w88_1, w88_4, w88_5, w88_6, w88_7, w88_8, w88_11, w88_14, w88_15, w88_16, w88_19, w88_20, w88_21, w88_24, w88_25, w88_27, w88_30, w88_31, w88_33, w88_36, w88_37, w88_40, w88_41, w88_44, w88_45, w88_49, w88_50, w88_53, w88_56, w88_57, w88_60, w88_63, w88_65, w88_66, w88_68, w88_70, w88_71, w88_74, w88_76, w88_78, w88_81, w88_82, w88_85, w88_87, w88_88, w88_89, w88_90, w88_92, w88_93, w88_94, w88_95, w88_98, w88_101, w88_102, w88_105, w88_106, w88_107, w88_108, w88_111, w88_112, w88_113, w88_114, w88_117, w88_118, w88_119, w88_120, w88_123, w88_124, w88_125, w88_126, w88_130, w88_131, w88_134, w88_137, w88_138, w88_141, w88_143, w88_144, w88_145, w88_146, w88_149, w88_151, w88_152, w88_153, w88_154, w88_158, w88_160, w88_163, w88_164, w88_167, w88_169, w88_170, w88_171, w88_175, w88_176, w88_179, w88_181, w88_182, w88_183, w88_184, w88_185, w88_188, w88_190, w88_192, w88_193, w88_194, w88_197, w88_198, w88_201, w88_203, w88_204, w88_205, w88_206, w88_207, w88_208, w88_211, w88_213, w88_214, w88_215, w88_216, w88_217, w88_220, w88_222, w88_224, w88_225, w88_226, w88_227, w88_230, w88_232, w88_233, w88_234, w88_237, w88_238, w88_239, w88_242, w88_245, w88_248, w88_251, Ko_n, Ko_v, vX_i, vX_r, vX_l, vX_j, reduceIte, skt, t7, show (t : Int) < ((t + 1 : Nat) : Int) by omega]
      exact hQ' OC TH TC hTH hTC
    | succ m ih =>
      intro u OC TH TC l7 hu u0 hOC hTH hTC
      have key := loopC u OC u0 (by omega) hOC (fun TH TC l7 h1 h2 => ih (u + 1) OC TH TC l7 (by omega) (by omega) hOC h1 h2) u 1 (fu TH u (i64 0).toInt) (fu TC u (i64 0).toInt) (by omega) (by omega) (fun x hx => by rw [fu_n (by omega)]; exact hTH x hx) (fun x hx => by rw [fu_n (by omega)]; exact hTC x hx) (by rw [fu_s, i64_toInt]; exact thq0 u) (by rw [fu_s, i64_toInt]; exact tcq0 u)
      rw [w88_128]
      simp (disch := (first | assumption | omega | exact Nat.le_of_ble_eq_true rfl | rfl)) only [w88_0, w88_1, w88_4, w88_5, w88_6, w88_7, w88_8, w88_11, w88_14, w88_15, w88_16, w88_19, w88_20, w88_21, w88_24, w88_25, w88_27, w88_30, w88_31, w88_33, w88_36, w88_37, w88_40, w88_41, w88_44, w88_45, w88_49, w88_50, w88_53, w88_56, w88_57, w88_60, w88_63, w88_65, w88_66, w88_68, w88_70, w88_71, w88_74, w88_76, w88_78, w88_81, w88_82, w88_85, w88_87, w88_88, w88_89, w88_90, w88_92, w88_93, w88_94, w88_95, w88_98, w88_101, w88_102, w88_105, w88_106, w88_107, w88_108, w88_111, w88_112, w88_113, w88_114, w88_117, w88_118, w88_119, w88_120, w88_123, w88_124, w88_125, w88_126, w88_130, w88_131, w88_134, w88_137, w88_138, w88_141, w88_143, w88_144, w88_145, w88_146, w88_149, w88_151, w88_152, w88_153, w88_154, w88_158, w88_160, w88_163, w88_164, w88_167, w88_169, w88_170, w88_171, w88_175, w88_176, w88_179, w88_181, w88_182, w88_183, w88_184, w88_185, w88_188, w88_190, w88_192, w88_193, w88_194, w88_197, w88_198, w88_201, w88_203, w88_204, w88_205, w88_206, w88_207, w88_208, w88_211, w88_213, w88_214, w88_215, w88_216, w88_217, w88_220, w88_222, w88_224, w88_225, w88_226, w88_227, w88_230, w88_232, w88_233, w88_234, w88_237, w88_238, w88_239, w88_242, w88_245, w88_248, w88_251, Ko_n, Ko_v, vX_i, vX_r, vX_l, vX_j, reduceIte, skt, t7, show ¬ (t : Int) < (u : Int) by omega, sk1, sk2, su1, su2]
      exact key
  have loopA : ∀ (m n : Nat) (OC TH TC : Int → Int) (l7 : Value), n + m = N → ocU c n OC → Wp (d + 3) M_X9_prepare 47 [.ref 155, .ref p, .ref s, .int (i32 w), .int (i32 z), .int (i32 t), .int (i32 n), l7] [] (E T (skS τ OC TH TC)) Q := by
    intro m
    induction m with
    | zero =>
      intro n OC TH TC l7 hn hOC
      have hn : n = N := by omega
      subst hn
      rw [hN] at hOC
      have key := loopB t 1 OC (fu TH 0 (bs (fun k => decide (k = σ 702 s w))).toInt) (fu TC 0 (bs (fun k => decide (k = z))).toInt) l7 (by omega) (by omega) hOC (fun x hx => by
        have : x = 0 := by omega
        rw [this, show ((0 : Nat) : Int) = 0 from rfl, fu_s, i64_toInt]
        rfl) (fun x hx => by
        have : x = 0 := by omega
        rw [this, show ((0 : Nat) : Int) = 0 from rfl, fu_s, i64_toInt]
        rfl)
      rw [w88_47]
      simp (disch := (first | assumption | omega | exact Nat.le_of_ble_eq_true rfl | rfl)) only [w88_0, w88_1, w88_4, w88_5, w88_6, w88_7, w88_8, w88_11, w88_14, w88_15, w88_16, w88_19, w88_20, w88_21, w88_24, w88_25, w88_27, w88_30, w88_31, w88_33, w88_36, w88_37, w88_40, w88_41, w88_44, w88_45, w88_49, w88_50, w88_53, w88_56, w88_57, w88_60, w88_63, w88_65, w88_66, w88_68, w88_70, w88_71, w88_74, w88_76, w88_78, w88_81, w88_82, w88_85, w88_87, w88_88, w88_89, w88_90, w88_92, w88_93, w88_94, w88_95, w88_98, w88_101, w88_102, w88_105, w88_106, w88_107, w88_108, w88_111, w88_112, w88_113, w88_114, w88_117, w88_118, w88_119, w88_120, w88_123, w88_124, w88_125, w88_126, w88_130, w88_131, w88_134, w88_137, w88_138, w88_141, w88_143, w88_144, w88_145, w88_146, w88_149, w88_151, w88_152, w88_153, w88_154, w88_158, w88_160, w88_163, w88_164, w88_167, w88_169, w88_170, w88_171, w88_175, w88_176, w88_179, w88_181, w88_182, w88_183, w88_184, w88_185, w88_188, w88_190, w88_192, w88_193, w88_194, w88_197, w88_198, w88_201, w88_203, w88_204, w88_205, w88_206, w88_207, w88_208, w88_211, w88_213, w88_214, w88_215, w88_216, w88_217, w88_220, w88_222, w88_224, w88_225, w88_226, w88_227, w88_230, w88_232, w88_233, w88_234, w88_237, w88_238, w88_239, w88_242, w88_245, w88_248, w88_251, Ko_n, Ko_v, vX_i, vX_r, vX_l, vX_j, reduceIte, c26, hcell, Int.le_refl, skt, t5, t6, sk1, sk2, su1, su2, bs_one]
      exact key
    | succ m ih =>
      intro n OC TH TC l7 hn hOC
      have hcn := hcs n (by omega) (by omega)
      have hcc : C n = c n := hagr n (by omega) (by omega)
      have hstp := oc_step hOC (by omega) (by omega)
      have ih' := fun OC l7 => ih (n + 1) OC TH TC l7 (by omega)
      rw [w88_47]
      by_cases h1 : 1 ≤ c n ∧ c n ≤ 30
      · rw [if_pos h1] at hstp
        have hoq := hOC (c n) (by omega) h1.2
        rw [if_pos h1.1] at hoq
        simp (disch := (first | assumption | omega | exact Nat.le_of_ble_eq_true rfl | rfl)) only [w88_0, w88_1, w88_4, w88_5, w88_6, w88_7, w88_8, w88_11, w88_14, w88_15, w88_16, w88_19, w88_20, w88_21, w88_24, w88_25, w88_27, w88_30, w88_31, w88_33, w88_36, w88_37, w88_40, w88_41, w88_44, w88_45, w88_49, w88_50, w88_53, w88_56, w88_57, w88_60, w88_63, w88_65, w88_66, w88_68, w88_70, w88_71, w88_74, w88_76, w88_78, w88_81, w88_82, w88_85, w88_87, w88_88, w88_89, w88_90, w88_92, w88_93, w88_94, w88_95, w88_98, w88_101, w88_102, w88_105, w88_106, w88_107, w88_108, w88_111, w88_112, w88_113, w88_114, w88_117, w88_118, w88_119, w88_120, w88_123, w88_124, w88_125, w88_126, w88_130, w88_131, w88_134, w88_137, w88_138, w88_141, w88_143, w88_144, w88_145, w88_146, w88_149, w88_151, w88_152, w88_153, w88_154, w88_158, w88_160, w88_163, w88_164, w88_167, w88_169, w88_170, w88_171, w88_175, w88_176, w88_179, w88_181, w88_182, w88_183, w88_184, w88_185, w88_188, w88_190, w88_192, w88_193, w88_194, w88_197, w88_198, w88_201, w88_203, w88_204, w88_205, w88_206, w88_207, w88_208, w88_211, w88_213, w88_214, w88_215, w88_216, w88_217, w88_220, w88_222, w88_224, w88_225, w88_226, w88_227, w88_230, w88_232, w88_233, w88_234, w88_237, w88_238, w88_239, w88_242, w88_245, w88_248, w88_251, Ko_n, Ko_v, vX_i, vX_r, vX_l, vX_j, reduceIte, c26, hcell, show ¬ (N : Int) ≤ (n : Int) by omega, skt, t0, hcc, show ¬ c n < 1 by omega, show ¬ 30 < c n by omega, sk0, hoq, bs_add, su0]
        exact ih' _ _ hstp
      · rw [if_neg h1] at hstp
        by_cases h2 : c n < 1
        · simp (disch := (first | assumption | omega | exact Nat.le_of_ble_eq_true rfl | rfl)) only [w88_0, w88_1, w88_4, w88_5, w88_6, w88_7, w88_8, w88_11, w88_14, w88_15, w88_16, w88_19, w88_20, w88_21, w88_24, w88_25, w88_27, w88_30, w88_31, w88_33, w88_36, w88_37, w88_40, w88_41, w88_44, w88_45, w88_49, w88_50, w88_53, w88_56, w88_57, w88_60, w88_63, w88_65, w88_66, w88_68, w88_70, w88_71, w88_74, w88_76, w88_78, w88_81, w88_82, w88_85, w88_87, w88_88, w88_89, w88_90, w88_92, w88_93, w88_94, w88_95, w88_98, w88_101, w88_102, w88_105, w88_106, w88_107, w88_108, w88_111, w88_112, w88_113, w88_114, w88_117, w88_118, w88_119, w88_120, w88_123, w88_124, w88_125, w88_126, w88_130, w88_131, w88_134, w88_137, w88_138, w88_141, w88_143, w88_144, w88_145, w88_146, w88_149, w88_151, w88_152, w88_153, w88_154, w88_158, w88_160, w88_163, w88_164, w88_167, w88_169, w88_170, w88_171, w88_175, w88_176, w88_179, w88_181, w88_182, w88_183, w88_184, w88_185, w88_188, w88_190, w88_192, w88_193, w88_194, w88_197, w88_198, w88_201, w88_203, w88_204, w88_205, w88_206, w88_207, w88_208, w88_211, w88_213, w88_214, w88_215, w88_216, w88_217, w88_220, w88_222, w88_224, w88_225, w88_226, w88_227, w88_230, w88_232, w88_233, w88_234, w88_237, w88_238, w88_239, w88_242, w88_245, w88_248, w88_251, Ko_n, Ko_v, vX_i, vX_r, vX_l, vX_j, reduceIte, c26, hcell, show ¬ (N : Int) ≤ (n : Int) by omega, skt, t0, hcc, h2]
          exact ih' _ _ hstp
        · simp (disch := (first | assumption | omega | exact Nat.le_of_ble_eq_true rfl | rfl)) only [w88_0, w88_1, w88_4, w88_5, w88_6, w88_7, w88_8, w88_11, w88_14, w88_15, w88_16, w88_19, w88_20, w88_21, w88_24, w88_25, w88_27, w88_30, w88_31, w88_33, w88_36, w88_37, w88_40, w88_41, w88_44, w88_45, w88_49, w88_50, w88_53, w88_56, w88_57, w88_60, w88_63, w88_65, w88_66, w88_68, w88_70, w88_71, w88_74, w88_76, w88_78, w88_81, w88_82, w88_85, w88_87, w88_88, w88_89, w88_90, w88_92, w88_93, w88_94, w88_95, w88_98, w88_101, w88_102, w88_105, w88_106, w88_107, w88_108, w88_111, w88_112, w88_113, w88_114, w88_117, w88_118, w88_119, w88_120, w88_123, w88_124, w88_125, w88_126, w88_130, w88_131, w88_134, w88_137, w88_138, w88_141, w88_143, w88_144, w88_145, w88_146, w88_149, w88_151, w88_152, w88_153, w88_154, w88_158, w88_160, w88_163, w88_164, w88_167, w88_169, w88_170, w88_171, w88_175, w88_176, w88_179, w88_181, w88_182, w88_183, w88_184, w88_185, w88_188, w88_190, w88_192, w88_193, w88_194, w88_197, w88_198, w88_201, w88_203, w88_204, w88_205, w88_206, w88_207, w88_208, w88_211, w88_213, w88_214, w88_215, w88_216, w88_217, w88_220, w88_222, w88_224, w88_225, w88_226, w88_227, w88_230, w88_232, w88_233, w88_234, w88_237, w88_238, w88_239, w88_242, w88_245, w88_248, w88_251, Ko_n, Ko_v, vX_i, vX_r, vX_l, vX_j, reduceIte, c26, hcell, show ¬ (N : Int) ≤ (n : Int) by omega, skt, t0, hcc, h2, show 30 < c n by omega]
          exact ih' _ _ hstp
  rw [c319 (by omega) (ok_900 155 hr)]
  have key := loopA N 0 (fil (τ 900 155) 31 (i64 0).toInt) (τ 901 155) (τ 902 155) vmJ (by omega) (fun q q0 q1 => by
    have e : fil (τ 900 155) 31 (i64 0).toInt q = (i64 0).toInt := by unfold fil; rw [if_pos (by omega)]
    rw [e, i64_toInt, bs_none]
    apply bs_congr
    intro k k0 k1
    by_cases hq : 1 ≤ q
    · rw [if_pos hq]
      unfold ocB
      rw [decide_eq_false (by omega)]
    · rw [if_neg hq])
  have e0 : skS τ (fil (τ 900 155) 31 (i64 0).toInt) (τ 901 155) (τ 902 155) = upA τ 900 155 (fil (τ 900 155) 31 (i64 0).toInt) := by
    have := su0 (τ := τ) (OC := τ 900 155) (TH := τ 901 155) (TC := τ 902 155) (f := fil (τ 900 155) 31 (i64 0).toInt)
    rw [sk_self] at this
    exact this.symm
  rw [e0] at key
  simp (disch := (first | assumption | omega | exact Nat.le_of_ble_eq_true rfl | rfl)) only [w88_0, w88_1, w88_4, w88_5, w88_6, w88_7, w88_8, w88_11, w88_14, w88_15, w88_16, w88_19, w88_20, w88_21, w88_24, w88_25, w88_27, w88_30, w88_31, w88_33, w88_36, w88_37, w88_40, w88_41, w88_44, w88_45, w88_49, w88_50, w88_53, w88_56, w88_57, w88_60, w88_63, w88_65, w88_66, w88_68, w88_70, w88_71, w88_74, w88_76, w88_78, w88_81, w88_82, w88_85, w88_87, w88_88, w88_89, w88_90, w88_92, w88_93, w88_94, w88_95, w88_98, w88_101, w88_102, w88_105, w88_106, w88_107, w88_108, w88_111, w88_112, w88_113, w88_114, w88_117, w88_118, w88_119, w88_120, w88_123, w88_124, w88_125, w88_126, w88_130, w88_131, w88_134, w88_137, w88_138, w88_141, w88_143, w88_144, w88_145, w88_146, w88_149, w88_151, w88_152, w88_153, w88_154, w88_158, w88_160, w88_163, w88_164, w88_167, w88_169, w88_170, w88_171, w88_175, w88_176, w88_179, w88_181, w88_182, w88_183, w88_184, w88_185, w88_188, w88_190, w88_192, w88_193, w88_194, w88_197, w88_198, w88_201, w88_203, w88_204, w88_205, w88_206, w88_207, w88_208, w88_211, w88_213, w88_214, w88_215, w88_216, w88_217, w88_220, w88_222, w88_224, w88_225, w88_226, w88_227, w88_230, w88_232, w88_233, w88_234, w88_237, w88_238, w88_239, w88_242, w88_245, w88_248, w88_251, Ko_n, Ko_v, vX_i, vX_r, vX_l, vX_j, reduceIte]
  exact key
