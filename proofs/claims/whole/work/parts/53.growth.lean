/-! ===== Growth ===== -/
def lwS (fc : Int → Int) (c : Int) (l : List Int) : List Int := if c < 1006 then (if c < 1000 then c else fc (c - 1000)) :: l else if c = 1006 then (match l with
  | v :: r => (1 - v) :: r
  | [] => []) else (match l with
  | b :: a :: r => jn c a b :: r
  | _ => [])
/-- a law's numbers, behind so many of its codes -/
def lwR (fc cd : Int → Int) : Nat → List Int
  | 0 => []
  | n + 1 => lwS fc (cd n) (lwR fc cd n)
def lwOk (fc cd : Int → Int) (n : Nat) : Prop := ∀ i : Nat, i < n → 0 ≤ cd i ∧ cd i ≤ 1014 ∧ (cd i < 1006 → (lwR fc cd i).length < 64) ∧ (cd i = 1006 → 1 ≤ (lwR fc cd i).length) ∧ (1006 < cd i → 2 ≤ (lwR fc cd i).length) ∧ (lwR fc cd i).length ≤ 64 ∧ ∀ v ∈ lwR fc cd i, -1000000 ≤ v ∧ v ≤ 1000000
def onS (S : Int → Int) : List Int → Prop
  | [] => True
  | v :: l => S l.length = v ∧ onS S l
theorem onS_fu {S : Int → Int} {z v : Int} : ∀ l : List Int, onS S l → (l.length : Int) ≤ z → onS (fu S z v) l
  | [], _, _ => trivial
  | w :: l, h, hz => by
    obtain ⟨h1, h2⟩ := h
    simp only [List.length_cons] at hz
    refine ⟨?_, onS_fu l h2 (by omega)⟩
    rw [fu_n (by omega)]
    exact h1
theorem c17 {d : Nat} {k : Int} {g l many : Nat} {T : Tt} {σ : St} {Q : vmO → vmH → Prop} (hg : ob 2 g) (hl : ob 3 l) (hm : σ 301 l 0 = many) (hm1 : many ≤ 900) (hok : lwOk (σ 201 g) (σ 300 l) many) (hend : (lwR (σ 201 g) (σ 300 l) many).length ≤ 64 ∧ ∀ v ∈ lwR (σ 201 g) (σ 300 l) many, -1000000 ≤ v ∧ v ≤ 1000000) (hQ : ∀ S, Q (.inl (some (.int (i32 (if lwR (σ 201 g) (σ 300 l) many = [1] then 1 else 0))))) (E T (upA σ 200 g S))) : Ca (d + 1) k 17 [.ref g, .ref l] (E T σ) Q := by
  have hg3 := ob_lt hg
  have hl3 := ob_lt hl
  have loop : ∀ (m i : Nat) (S : Int → Int) (l4 : Value), i + m = many → onS S (lwR (σ 201 g) (σ 300 l) i) → Wp (d + 1) M_X2_holds 4 [.ref g, .ref l, .int (i32 ((lwR (σ 201 g) (σ 300 l) i).length - 1)), .int (i32 i), l4] [] (E T (upA σ 200 g S)) Q := by
    intro m
    induction m with
    | zero =>
      intro i S l4 hi hS
      have hi : i = many := by omega
      subst hi
      rw [w17_4]
      have hq := hQ S
      cases hr : lwR (σ 201 g) (σ 300 l) i with
      | nil =>
        rw [hr] at hq
        simp (disch := (first | assumption | omega | exact Nat.le_of_ble_eq_true rfl | rfl)) only [w17_0, w17_1, w17_2, w17_3, w17_5, w17_6, w17_9, w17_12, w17_13, w17_16, w17_17, w17_18, w17_20, w17_22, w17_25, w17_28, w17_29, w17_30, w17_31, w17_32, w17_35, w17_36, w17_39, w17_40, w17_41, w17_44, w17_45, w17_48, w17_49, w17_51, w17_54, w17_57, w17_59, w17_62, w17_63, w17_66, w17_68, w17_71, w17_72, w17_73, w17_74, w17_77, w17_79, w17_82, w17_85, w17_86, w17_89, w17_90, w17_91, w17_92, w17_95, w17_96, w17_97, w17_98, w17_101, w17_102, w17_103, w17_104, w17_105, w17_108, w17_109, w17_110, w17_113, w17_114, w17_115, w17_118, w17_119, w17_122, w17_123, w17_125, w17_126, w17_129, w17_130, w17_131, w17_132, w17_135, w17_136, w17_137, w17_138, w17_139, w17_142, w17_143, w17_146, w17_149, w17_150, w17_153, w17_154, w17_157, w17_158, w17_159, w17_160, w17_163, w17_164, w17_167, w17_168, Ko_n, Ko_v, vX_i, vX_r, vX_l, vX_j, reduceIte, upA_t, hm, Int.le_refl, List.length_nil, show ((0 : Nat) : Int) - 1 = -1 by omega, Int.reduceEq, Int.reduceNeg, not_false_eq_true]
        exact hq
      | cons v r =>
        rw [hr] at hq hS hend
        have hv := hend.2 v List.mem_cons_self
        have hlen := hend.1
        simp only [List.length_cons] at hlen
        obtain ⟨hs1, hs2⟩ := hS
        cases r with
        | nil =>
          have hs0 : S 0 = v := hs1
          simp (disch := (first | assumption | omega | exact Nat.le_of_ble_eq_true rfl | rfl)) only [w17_0, w17_1, w17_2, w17_3, w17_5, w17_6, w17_9, w17_12, w17_13, w17_16, w17_17, w17_18, w17_20, w17_22, w17_25, w17_28, w17_29, w17_30, w17_31, w17_32, w17_35, w17_36, w17_39, w17_40, w17_41, w17_44, w17_45, w17_48, w17_49, w17_51, w17_54, w17_57, w17_59, w17_62, w17_63, w17_66, w17_68, w17_71, w17_72, w17_73, w17_74, w17_77, w17_79, w17_82, w17_85, w17_86, w17_89, w17_90, w17_91, w17_92, w17_95, w17_96, w17_97, w17_98, w17_101, w17_102, w17_103, w17_104, w17_105, w17_108, w17_109, w17_110, w17_113, w17_114, w17_115, w17_118, w17_119, w17_122, w17_123, w17_125, w17_126, w17_129, w17_130, w17_131, w17_132, w17_135, w17_136, w17_137, w17_138, w17_139, w17_142, w17_143, w17_146, w17_149, w17_150, w17_153, w17_154, w17_157, w17_158, w17_159, w17_160, w17_163, w17_164, w17_167, w17_168, Ko_n, Ko_v, vX_i, vX_r, vX_l, vX_j, reduceIte, upA_t, upA_s, hm, Int.le_refl, List.length_cons, List.length_nil, show ((0 + 1 : Nat) : Int) - 1 = 0 by omega, not_true, hs0]
          by_cases h1 : v = 1
          · simp only [h1, not_true, if_false]
            rw [h1, if_pos rfl] at hq
            exact hq
          · simp only [h1, not_false_eq_true, if_true]
            rw [if_neg (by simpa using h1)] at hq
            exact hq
        | cons w r =>
          simp only [List.length_cons] at hlen
          rw [if_neg (by simp)] at hq
          simp (disch := (first | assumption | omega | exact Nat.le_of_ble_eq_true rfl | rfl)) only [w17_0, w17_1, w17_2, w17_3, w17_5, w17_6, w17_9, w17_12, w17_13, w17_16, w17_17, w17_18, w17_20, w17_22, w17_25, w17_28, w17_29, w17_30, w17_31, w17_32, w17_35, w17_36, w17_39, w17_40, w17_41, w17_44, w17_45, w17_48, w17_49, w17_51, w17_54, w17_57, w17_59, w17_62, w17_63, w17_66, w17_68, w17_71, w17_72, w17_73, w17_74, w17_77, w17_79, w17_82, w17_85, w17_86, w17_89, w17_90, w17_91, w17_92, w17_95, w17_96, w17_97, w17_98, w17_101, w17_102, w17_103, w17_104, w17_105, w17_108, w17_109, w17_110, w17_113, w17_114, w17_115, w17_118, w17_119, w17_122, w17_123, w17_125, w17_126, w17_129, w17_130, w17_131, w17_132, w17_135, w17_136, w17_137, w17_138, w17_139, w17_142, w17_143, w17_146, w17_149, w17_150, w17_153, w17_154, w17_157, w17_158, w17_159, w17_160, w17_163, w17_164, w17_167, w17_168, Ko_n, Ko_v, vX_i, vX_r, vX_l, vX_j, reduceIte, upA_t, hm, Int.le_refl, List.length_cons, show ¬ ((r.length + 1 + 1 : Nat) : Int) - 1 = 0 by omega, not_false_eq_true]
          exact hq
    | succ m ih =>
      intro i S l4 hi hS
      obtain ⟨c0, c1, o1, o2, o3, o4, o5⟩ := hok i (by omega)
      have ih' := fun S l4 => ih (i + 1) S l4 (by omega)
      rw [show lwR (σ 201 g) (σ 300 l) (i + 1) = lwS (σ 201 g) (σ 300 l i) (lwR (σ 201 g) (σ 300 l) i) from rfl] at ih'
      rw [w17_4]
      generalize hr : lwR (σ 201 g) (σ 300 l) i = L at *
      by_cases h6 : σ 300 l i < 1006
      · have hln := o1 h6
        have e1 : lwS (σ 201 g) (σ 300 l i) L = (if σ 300 l i < 1000 then σ 300 l i else σ 201 g (σ 300 l i - 1000)) :: L := by unfold lwS; rw [if_pos h6]
        rw [e1] at ih'
        have hS2 := fun v => onS_fu (v := v) L hS (Int.le_refl _)
        by_cases h5 : σ 300 l i < 1000
        · rw [if_pos h5] at ih'
          have := ih' (fu S L.length (σ 300 l i)) (.int (i32 (σ 300 l i))) ⟨fu_s, hS2 _⟩
          simp only [List.length_cons] at this
          simp (disch := (first | assumption | omega | exact Nat.le_of_ble_eq_true rfl | rfl)) only [w17_0, w17_1, w17_2, w17_3, w17_5, w17_6, w17_9, w17_12, w17_13, w17_16, w17_17, w17_18, w17_20, w17_22, w17_25, w17_28, w17_29, w17_30, w17_31, w17_32, w17_35, w17_36, w17_39, w17_40, w17_41, w17_44, w17_45, w17_48, w17_49, w17_51, w17_54, w17_57, w17_59, w17_62, w17_63, w17_66, w17_68, w17_71, w17_72, w17_73, w17_74, w17_77, w17_79, w17_82, w17_85, w17_86, w17_89, w17_90, w17_91, w17_92, w17_95, w17_96, w17_97, w17_98, w17_101, w17_102, w17_103, w17_104, w17_105, w17_108, w17_109, w17_110, w17_113, w17_114, w17_115, w17_118, w17_119, w17_122, w17_123, w17_125, w17_126, w17_129, w17_130, w17_131, w17_132, w17_135, w17_136, w17_137, w17_138, w17_139, w17_142, w17_143, w17_146, w17_149, w17_150, w17_153, w17_154, w17_157, w17_158, w17_159, w17_160, w17_163, w17_164, w17_167, w17_168, Ko_n, Ko_v, vX_i, vX_r, vX_l, vX_j, reduceIte, upA_t, upA_s, hm, show ¬ (many : Int) ≤ (i : Int) by omega, show ¬ (1006 : Int) ≤ σ 300 l i by omega, show (L.length : Int) - 1 + 1 = L.length by omega, show (L.length : Int) < (64 : Nat) by omega, show ¬ (1000 : Int) ≤ σ 300 l i by omega, upA_upA]
          rw [show ((L.length + 1 : Nat) : Int) - 1 = L.length by omega] at this
          exact this
        · rw [if_neg h5] at ih'
          have := ih' (fu S L.length (σ 201 g (σ 300 l i - 1000))) (.int (i32 (σ 300 l i))) ⟨fu_s, hS2 _⟩
          simp only [List.length_cons] at this
          simp (disch := (first | assumption | omega | exact Nat.le_of_ble_eq_true rfl | rfl)) only [w17_0, w17_1, w17_2, w17_3, w17_5, w17_6, w17_9, w17_12, w17_13, w17_16, w17_17, w17_18, w17_20, w17_22, w17_25, w17_28, w17_29, w17_30, w17_31, w17_32, w17_35, w17_36, w17_39, w17_40, w17_41, w17_44, w17_45, w17_48, w17_49, w17_51, w17_54, w17_57, w17_59, w17_62, w17_63, w17_66, w17_68, w17_71, w17_72, w17_73, w17_74, w17_77, w17_79, w17_82, w17_85, w17_86, w17_89, w17_90, w17_91, w17_92, w17_95, w17_96, w17_97, w17_98, w17_101, w17_102, w17_103, w17_104, w17_105, w17_108, w17_109, w17_110, w17_113, w17_114, w17_115, w17_118, w17_119, w17_122, w17_123, w17_125, w17_126, w17_129, w17_130, w17_131, w17_132, w17_135, w17_136, w17_137, w17_138, w17_139, w17_142, w17_143, w17_146, w17_149, w17_150, w17_153, w17_154, w17_157, w17_158, w17_159, w17_160, w17_163, w17_164, w17_167, w17_168, Ko_n, Ko_v, vX_i, vX_r, vX_l, vX_j, reduceIte, upA_t, upA_s, hm, show ¬ (many : Int) ≤ (i : Int) by omega, show ¬ (1006 : Int) ≤ σ 300 l i by omega, show (L.length : Int) - 1 + 1 = L.length by omega, show (L.length : Int) < (64 : Nat) by omega, show (1000 : Int) ≤ σ 300 l i by omega, upA_upA]
          rw [show ((L.length + 1 : Nat) : Int) - 1 = L.length by omega] at this
          exact this
      · by_cases h7 : σ 300 l i = 1006
        · have hln := o2 h7
          cases L with
          | nil => simp at hln
          | cons v r =>
            have hv := o5 v List.mem_cons_self
            obtain ⟨hs1, hs2⟩ := hS
            simp only [List.length_cons] at o4
            have e1 : lwS (σ 201 g) (σ 300 l i) (v :: r) = (1 - v) :: r := by unfold lwS; rw [if_neg h6, if_pos h7]
            rw [e1] at ih'
            have := ih' (fu S r.length (1 - v)) (.int (i32 1006)) ⟨fu_s, onS_fu _ hs2 (Int.le_refl _)⟩
            simp only [List.length_cons] at this ⊢
            rw [show ((r.length + 1 : Nat) : Int) - 1 = r.length by omega] at this ⊢
            simp (disch := (first | assumption | omega | exact Nat.le_of_ble_eq_true rfl | rfl)) only [w17_0, w17_1, w17_2, w17_3, w17_5, w17_6, w17_9, w17_12, w17_13, w17_16, w17_17, w17_18, w17_20, w17_22, w17_25, w17_28, w17_29, w17_30, w17_31, w17_32, w17_35, w17_36, w17_39, w17_40, w17_41, w17_44, w17_45, w17_48, w17_49, w17_51, w17_54, w17_57, w17_59, w17_62, w17_63, w17_66, w17_68, w17_71, w17_72, w17_73, w17_74, w17_77, w17_79, w17_82, w17_85, w17_86, w17_89, w17_90, w17_91, w17_92, w17_95, w17_96, w17_97, w17_98, w17_101, w17_102, w17_103, w17_104, w17_105, w17_108, w17_109, w17_110, w17_113, w17_114, w17_115, w17_118, w17_119, w17_122, w17_123, w17_125, w17_126, w17_129, w17_130, w17_131, w17_132, w17_135, w17_136, w17_137, w17_138, w17_139, w17_142, w17_143, w17_146, w17_149, w17_150, w17_153, w17_154, w17_157, w17_158, w17_159, w17_160, w17_163, w17_164, w17_167, w17_168, Ko_n, Ko_v, vX_i, vX_r, vX_l, vX_j, reduceIte, upA_t, upA_s, hm, show ¬ (many : Int) ≤ (i : Int) by omega, h7, Int.le_refl, not_true, show (0 : Int) ≤ (r.length : Int) by omega, hs1, upA_upA]
            exact this
        · have hln := o3 (by omega)
          cases L with
          | nil => simp at hln
          | cons b L2 =>
            cases L2 with
            | nil => simp at hln
            | cons a r =>
              have hb := o5 b List.mem_cons_self
              have ha := o5 a (List.mem_cons_of_mem _ List.mem_cons_self)
              obtain ⟨hs1, hs2, hs3⟩ := hS
              simp only [List.length_cons] at o4 hs1
              have e1 : lwS (σ 201 g) (σ 300 l i) (b :: a :: r) = jn (σ 300 l i) a b :: r := by unfold lwS; rw [if_neg h6, if_neg h7]
              rw [e1] at ih'
              have := ih' (fu S r.length (jn (σ 300 l i) a b)) (.int (i32 (σ 300 l i))) ⟨fu_s, onS_fu _ hs3 (Int.le_refl _)⟩
              simp only [List.length_cons] at this ⊢
              rw [show ((r.length + 1 : Nat) : Int) - 1 = r.length by omega] at this
              rw [show ((r.length + 1 + 1 : Nat) : Int) - 1 = (r.length : Int) + 1 by omega]
              rw [show ((r.length + 1 : Nat) : Int) = (r.length : Int) + 1 by omega] at hs1
              simp (disch := (first | assumption | omega | exact Nat.le_of_ble_eq_true rfl | rfl)) only [w17_0, w17_1, w17_2, w17_3, w17_5, w17_6, w17_9, w17_12, w17_13, w17_16, w17_17, w17_18, w17_20, w17_22, w17_25, w17_28, w17_29, w17_30, w17_31, w17_32, w17_35, w17_36, w17_39, w17_40, w17_41, w17_44, w17_45, w17_48, w17_49, w17_51, w17_54, w17_57, w17_59, w17_62, w17_63, w17_66, w17_68, w17_71, w17_72, w17_73, w17_74, w17_77, w17_79, w17_82, w17_85, w17_86, w17_89, w17_90, w17_91, w17_92, w17_95, w17_96, w17_97, w17_98, w17_101, w17_102, w17_103, w17_104, w17_105, w17_108, w17_109, w17_110, w17_113, w17_114, w17_115, w17_118, w17_119, w17_122, w17_123, w17_125, w17_126, w17_129, w17_130, w17_131, w17_132, w17_135, w17_136, w17_137, w17_138, w17_139, w17_142, w17_143, w17_146, w17_149, w17_150, w17_153, w17_154, w17_157, w17_158, w17_159, w17_160, w17_163, w17_164, w17_167, w17_168, Ko_n, Ko_v, vX_i, vX_r, vX_l, vX_j, reduceIte, upA_t, upA_s, hm, show ¬ (many : Int) ≤ (i : Int) by omega, show (1006 : Int) ≤ σ 300 l i by omega, h7, not_false_eq_true, show (1 : Int) ≤ (r.length : Int) + 1 by omega, show (r.length : Int) + 1 + -1 = r.length by omega, hs1, hs2]
              rw [c23 (by omega) (by omega) (by omega) (by omega) (by omega) (by omega) (by omega)]
              simp (disch := (first | assumption | omega | exact Nat.le_of_ble_eq_true rfl | rfl)) only [w17_0, w17_1, w17_2, w17_3, w17_5, w17_6, w17_9, w17_12, w17_13, w17_16, w17_17, w17_18, w17_20, w17_22, w17_25, w17_28, w17_29, w17_30, w17_31, w17_32, w17_35, w17_36, w17_39, w17_40, w17_41, w17_44, w17_45, w17_48, w17_49, w17_51, w17_54, w17_57, w17_59, w17_62, w17_63, w17_66, w17_68, w17_71, w17_72, w17_73, w17_74, w17_77, w17_79, w17_82, w17_85, w17_86, w17_89, w17_90, w17_91, w17_92, w17_95, w17_96, w17_97, w17_98, w17_101, w17_102, w17_103, w17_104, w17_105, w17_108, w17_109, w17_110, w17_113, w17_114, w17_115, w17_118, w17_119, w17_122, w17_123, w17_125, w17_126, w17_129, w17_130, w17_131, w17_132, w17_135, w17_136, w17_137, w17_138, w17_139, w17_142, w17_143, w17_146, w17_149, w17_150, w17_153, w17_154, w17_157, w17_158, w17_159, w17_160, w17_163, w17_164, w17_167, w17_168, Ko_n, Ko_v, vX_i, vX_r, vX_l, vX_j, reduceIte, upA_s, upA_upA]
              exact this
  rw [n17 _ _ _ _ _ _ _ hg]
  simp (disch := (first | assumption | omega | exact Nat.le_of_ble_eq_true rfl | rfl)) only [w17_0, w17_1, w17_2, w17_3, w17_5, w17_6, w17_9, w17_12, w17_13, w17_16, w17_17, w17_18, w17_20, w17_22, w17_25, w17_28, w17_29, w17_30, w17_31, w17_32, w17_35, w17_36, w17_39, w17_40, w17_41, w17_44, w17_45, w17_48, w17_49, w17_51, w17_54, w17_57, w17_59, w17_62, w17_63, w17_66, w17_68, w17_71, w17_72, w17_73, w17_74, w17_77, w17_79, w17_82, w17_85, w17_86, w17_89, w17_90, w17_91, w17_92, w17_95, w17_96, w17_97, w17_98, w17_101, w17_102, w17_103, w17_104, w17_105, w17_108, w17_109, w17_110, w17_113, w17_114, w17_115, w17_118, w17_119, w17_122, w17_123, w17_125, w17_126, w17_129, w17_130, w17_131, w17_132, w17_135, w17_136, w17_137, w17_138, w17_139, w17_142, w17_143, w17_146, w17_149, w17_150, w17_153, w17_154, w17_157, w17_158, w17_159, w17_160, w17_163, w17_164, w17_167, w17_168, Ko_n, Ko_v, vX_i, vX_r, vX_l, vX_j, reduceIte]
  have := loop many 0 (σ 200 g) vmJ (by omega) trivial
  rw [upA_self] at this
  exact this
