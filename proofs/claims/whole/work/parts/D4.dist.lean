/-! ===== the reference: least costs by going over all again and again ===== -/
/-- prices as the reference keeps them -/
def rp (x : Int) : Int := if x = -1 then hiR else x
def rf (x : Int) : Int := if x < far then x else hiR
def smD2 (D : Int → Int) : Nat → Int
  | 0 => 0
  | n + 1 => smD2 D n + D n
theorem smD2_fu {D : Int → Int} {b v : Int} (b0 : 0 ≤ b) : ∀ n : Nat, smD2 (fu D b v) n = smD2 D n + if b < n then v - D b else 0
  | 0 => by rw [if_neg (by omega)]; rfl
  | n + 1 => by
    simp only [smD2]
    rw [smD2_fu b0 n]
    by_cases e : (n : Int) = b
    · rw [← e, fu_s, if_neg (by omega), if_pos (by omega)]; omega
    · rw [fu_n e]
      by_cases e2 : b < n
      · rw [if_pos e2, if_pos (by omega)]; omega
      · rw [if_neg e2, if_neg (by omega)]; omega
theorem smD2_nn {D : Int → Int} : ∀ n : Nat, (∀ j : Nat, j < n → 0 ≤ D j) → 0 ≤ smD2 D n
  | 0, _ => Int.le_refl _
  | n + 1, h => by
    have := smD2_nn n (fun j hj => h j (by omega))
    have := h n (by omega)
    simp only [smD2]
    omega
def fnD (D : Int → Int) (N : Nat) : Int := cnt (fun z => decide (D z < hiR)) N
/-- costs on the way down -/
def bfI (y D : Int → Int) (N : Nat) : Prop := ∀ z : Int, 0 ≤ z → z < N → (0 ≤ D z ∧ D z ≤ hiR) ∧ (D z < hiR → y z ≤ D z ∧ D z ≤ 181 * (fnD D N - 1))
theorem fnD_in {D : Int → Int} {N : Nat} : 0 ≤ fnD D N ∧ fnD D N ≤ N := cnt_in N
/-- one cell is reached more cheaply -/
theorem bfI_s {W H : Int} {c y D : Int → Int} {N : Nat} {k e : Int} (h : wh2 W H) (hc : csIn c (W * H)) (hN : (N : Int) = W * H) (hy : cl1 W H c y) (hI : bfI y D N) (k0 : 0 ≤ k) (k1 : k < W * H) (e0 : 0 ≤ e) (e1 : e < 4) (hk : D k < hiR) (hb : nbC W H k e ≠ -1) (hcb : c (nbC W H k e) ≠ -1) (hl : D k + c (nbC W H k e) < D (nbC W H k e)) : bfI y (fu D (nbC W H k e) (D k + c (nbC W H k e))) N ∧ smD2 (fu D (nbC W H k e) (D k + c (nbC W H k e))) N < smD2 D N := by
  have hm := wh_mul h
  have hi := nb_in h k0 k1 hb
  have hcs := hc _ hi.1 hi.2.1
  have ik := hI k k0 (by omega)
  have ib := hI (nbC W H k e) hi.1 (by omega)
  have hyk := hy k e k0 k1 e0 e1 hb hcb
  have hF := fnD_in (D := D) (N := N)
  generalize hbb : nbC W H k e = b at *
  have fle : fnD D N ≤ fnD (fu D b (D k + c b)) N := cnt_le N (fun j hj hp => by
    have hp2 := of_decide_eq_true hp
    refine decide_eq_true ?_
    by_cases ej : (j : Int) = b
    · rw [ej, fu_s]; rw [ej] at hp2; omega
    · rw [fu_n ej]; exact hp2)
  have hk2 := ik.2 hk
  have hnew : D k + c b < hiR := by omega
  refine ⟨fun z z0 z1 => ?_, ?_⟩
  · by_cases ez : z = b
    · rw [ez, fu_s]
      refine ⟨⟨by omega, by omega⟩, fun _ => ⟨by omega, ?_⟩⟩
      by_cases hfb : D b < hiR
      · have := (ib.2 hfb).2; omega
      · have := cnt_lt (p := fun z => decide (D z < hiR)) (q := fun z => decide (fu D b (D k + c b) z < hiR)) (j := b.toNat) (by
          rw [show ((b.toNat : Nat) : Int) = b by omega]
          exact decide_eq_true (by rw [fu_s]; exact hnew)) (by
          rw [show ((b.toNat : Nat) : Int) = b by omega]
          exact decide_eq_false hfb) N (fun j hj hp => by
          have hp2 := of_decide_eq_true hp
          refine decide_eq_true ?_
          by_cases ej : (j : Int) = b
          · rw [ej, fu_s]; exact hnew
          · rw [fu_n ej]; exact hp2) (by omega)
        have t : fnD D N + 1 ≤ fnD (fu D b (D k + c b)) N := this
        omega
    · rw [fu_n ez]
      have iz := hI z z0 z1
      exact ⟨iz.1, fun w => ⟨(iz.2 w).1, by have := (iz.2 w).2; omega⟩⟩
  · rw [smD2_fu hi.1, if_pos (by omega)]
    omega
/-- nothing is left to do at a side -/
def nlD (W H : Int) (c D : Int → Int) (k e : Int) : Prop := D k = hiR ∨ bsC W H k e = -1 ∨ c (bsC W H k e) = -1 ∨ D (bsC W H k e) ≤ D k + c (bsC W H k e)
theorem rd_inv {e : Int} (e0 : 0 ≤ e) (e1 : e < 4) : ∃ e' : Int, 0 ≤ e' ∧ e' < 4 ∧ rdD e' = e := by
  have : e = 0 ∨ e = 1 ∨ e = 2 ∨ e = 3 := by omega
  rcases this with x | x | x | x <;> subst x
  · exact ⟨2, by omega, by omega, rfl⟩
  · exact ⟨0, by omega, by omega, rfl⟩
  · exact ⟨1, by omega, by omega, rfl⟩
  · exact ⟨3, by omega, by omega, rfl⟩
theorem rd_in {e : Int} (e0 : 0 ≤ e) (e1 : e < 4) : 0 ≤ rdD e ∧ rdD e < 4 := by unfold rdD; repeat' split <;> omega
/-- when nothing is left, these are the least costs -/
theorem bf_end {W H t : Int} {c D : Int → Int} {N : Nat} (h : wh2 W H) (hc : csIn c (W * H)) (hN : (N : Int) = W * H) (t0 : 0 ≤ t) (t1 : t < W * H) (ht : c t ≠ -1) (hI : bfI (dD W H c t N) D N) (hD : D t = 0) (hE : ∀ k e, 0 ≤ k → k < W * H → 0 ≤ e → e < 4 → nlD W H c D k e) : ∀ z, 0 ≤ z → z < W * H → D z = rf (dD W H c t N z) := by
  have hm := wh_mul h
  have hfar : far = 1000000000 := rfl
  have hhi : hiR = 536870912 := rfl
  have gr := dD_gr (t := t) h hc hN
  have hF := fnD_in (D := D) (N := N)
  have up := gr.2.2 (fun z => if D z < hiR then D z else far) (fun j j0 j1 => by
    rw [std_at j0 (by omega)]
    by_cases e2 : j = t ∧ c t ≠ -1
    · rw [if_pos e2, e2.1, hD, if_pos (by omega)]; omega
    · rw [if_neg e2]
      split
      · omega
      · omega) (fun j e j0 j1 e0 e1 hn hcn => by
    dsimp only
    obtain ⟨e', a, b, he⟩ := rd_inv e0 e1
    have q := hE j e' j0 j1 a b
    unfold nlD bsC at q
    rw [he] at q
    have hi := nb_in h j0 j1 hn
    have hcs := hc _ hi.1 hi.2.1
    have ij := hI j j0 (by omega)
    have ib := hI (nbC W H j e) hi.1 (by omega)
    by_cases f1 : D j < hiR
    · rw [if_pos f1]
      have := (ij.2 f1).2
      rcases q with q | q | q | q
      · omega
      · exact absurd q hn
      · exact absurd q hcn
      · rw [if_pos (by omega)]; exact q
    · rw [if_neg f1]
      split <;> omega)
  intro z z0 z1
  have u := up z z0 z1
  have iz := hI z z0 (by omega)
  unfold rf
  by_cases f1 : D z < hiR
  · rw [if_pos f1] at u
    have := (iz.2 f1).1
    rw [if_pos (by omega)]
    omega
  · rw [if_neg f1] at u
    rw [if_neg (by omega)]
    omega
theorem c232 {d N : Nat} {k t : Int} {K c : Int → Int} {T : Tt} {σ : St} {Q : vmO → vmH → Prop} (hK : σ 1200 382 = K) (h : wh2 (K 1) (K 2)) (hN : (N : Int) = K 1 * K 2) (hc : csIn c (K 1 * K 2)) (hP : ∀ z, 0 ≤ z → z < K 1 * K 2 → σ 1219 382 z = rp (c z)) (t0 : 0 ≤ t) (t1 : t < K 1 * K 2) (ht : c t ≠ -1)
    (hQ : ∀ D, (∀ z, 0 ≤ z → z < K 1 * K 2 → D z = rf (dD (K 1) (K 2) c t N z)) → Q (.inl none) (E T (upA σ 1220 382 D))) : Ca (d + 2) k 232 [.ref 382, .int (i32 t)] (E T σ) Q := by
  have h0 := ob_md
  have hm := wh_mul h
  have hhi : hiR = 536870912 := rfl
  have gr := dD_gr (t := t) h hc hN
  rw [n232 _ _ _ _ _ _ _ h0]
  have cK : ∀ D, (upA σ 1220 382 D) 1200 382 = K := fun D => by rw [upA_t (by omega)]; exact hK
  -- one cell's sides
  have sides : ∀ (m e : Nat) (D : Int → Int) (k : Int) (mo : Int) (l5 : Value), e + m = 4 → 0 ≤ k → k < K 1 * K 2 → bfI (dD (K 1) (K 2) c t N) D N → D t = 0 → D k < hiR → (mo = 0 ∨ mo = 1) → (∀ D' mo' l5', bfI (dD (K 1) (K 2) c t N) D' N → D' t = 0 → ((mo' = mo ∧ D' = D ∧ ∀ e', (e : Int) ≤ e' → e' < 4 → nlD (K 1) (K 2) c D k e') ∨ (mo' = 1 ∧ smD2 D' N < smD2 D N)) → Wp (d + 2) M_X12_laysDist 158 [.ref 382, .int (i32 t), .int (i32 mo'), .int (i32 k), .int (i32 4), l5'] [] (E T (upA σ 1220 382 D')) Q) → Wp (d + 2) M_X12_laysDist 68 [.ref 382, .int (i32 t), .int (i32 mo), .int (i32 k), .int (i32 e), l5] [] (E T (upA σ 1220 382 D)) Q := by
    intro m
    induction m with
    | zero =>
      intro e D k mo l5 he k0 k1 hI hD hk hmo hG
      have he : e = 4 := by omega
      subst he
      rw [w232_68]
      simp (disch := (first | assumption | omega | exact Nat.le_of_ble_eq_true rfl | rfl)) only [w232_70, w232_71, w232_74, w232_75, w232_76, w232_78, w232_81, w232_83, w232_85, w232_86, w232_89, w232_90, w232_93, w232_95, w232_96, w232_99, w232_102, w232_103, w232_106, w232_107, w232_108, w232_109, w232_112, w232_114, w232_115, w232_116, w232_117, w232_120, w232_122, w232_123, w232_126, w232_129, w232_130, w232_133, w232_135, w232_136, w232_139, w232_140, w232_141, w232_142, w232_145, w232_147, w232_148, w232_149, w232_150, w232_151, w232_152, w232_155, Ko_n, Ko_v, vX_i, vX_r, vX_l, vX_j, reduceIte, show (4 : Int) ≤ ((4 : Nat) : Int) by omega]
      exact hG D mo l5 hI hD (Or.inl ⟨rfl, rfl, fun e' a b => by omega⟩)
    | succ m ih =>
      intro e D k mo l5 he k0 k1 hI hD hk hmo hG
      have hb := bsC_in (e := (e : Int)) h k0 k1
      have ik := hI k k0 (by omega)
      rw [w232_68]
      simp (disch := (first | assumption | omega | exact Nat.le_of_ble_eq_true rfl | rfl)) only [w232_70, w232_71, w232_74, w232_75, w232_76, w232_78, w232_81, w232_83, w232_85, w232_86, w232_89, w232_90, w232_93, w232_95, w232_96, w232_99, w232_102, w232_103, w232_106, w232_107, w232_108, w232_109, w232_112, w232_114, w232_115, w232_116, w232_117, w232_120, w232_122, w232_123, w232_126, w232_129, w232_130, w232_133, w232_135, w232_136, w232_139, w232_140, w232_141, w232_142, w232_145, w232_147, w232_148, w232_149, w232_150, w232_151, w232_152, w232_155, Ko_n, Ko_v, vX_i, vX_r, vX_l, vX_j, reduceIte, show ¬ (4 : Int) ≤ (e : Int) by omega]
      rw [c219 (cK D) h k0 k1 (by omega) (by omega)]
      have skip : ∀ l5, nlD (K 1) (K 2) c D k e → Wp (d + 2) M_X12_laysDist 152 [.ref 382, .int (i32 t), .int (i32 mo), .int (i32 k), .int (i32 e), l5] [] (E T (upA σ 1220 382 D)) Q := by
        intro l5 hnl
        simp (disch := (first | assumption | omega | exact Nat.le_of_ble_eq_true rfl | rfl)) only [w232_152, w232_155, Ko_n, Ko_v, vX_i, vX_r, vX_l, vX_j, reduceIte]
        refine ih (e + 1) D k mo l5 (by omega) k0 k1 hI hD hk hmo fun D' mo' l5' g1 g2 g3 => hG D' mo' l5' g1 g2 ?_
        rcases g3 with g3 | g3
        · refine Or.inl ⟨g3.1, g3.2.1, fun e' a b => ?_⟩
          by_cases ee : e' = e
          · rw [ee]; exact hnl
          · exact g3.2.2 e' (by omega) b
        · exact Or.inr g3
      by_cases e1 : bsC (K 1) (K 2) k e = -1
      · simp (disch := (first | assumption | omega | exact Nat.le_of_ble_eq_true rfl | rfl)) only [w232_70, w232_71, w232_74, w232_75, w232_76, w232_78, w232_81, w232_83, w232_85, w232_86, w232_89, w232_90, w232_93, w232_95, w232_96, w232_99, w232_102, w232_103, w232_106, w232_107, w232_108, w232_109, w232_112, w232_114, w232_115, w232_116, w232_117, w232_120, w232_122, w232_123, w232_126, w232_129, w232_130, w232_133, w232_135, w232_136, w232_139, w232_140, w232_141, w232_142, w232_145, w232_147, w232_148, w232_149, w232_150, w232_151, Ko_n, Ko_v, vX_i, vX_r, vX_l, vX_j, reduceIte, e1]
        exact skip _ (Or.inr (Or.inl e1))
      · have hb1 : 0 ≤ bsC (K 1) (K 2) k e ∧ bsC (K 1) (K 2) k e < K 1 * K 2 := by omega
        have hcs := hc _ hb1.1 hb1.2
        have hPb := hP _ hb1.1 hb1.2
        have ib := hI _ hb1.1 (by omega : bsC (K 1) (K 2) k e < N)
        by_cases e2 : c (bsC (K 1) (K 2) k e) = -1
        · have hPb2 : σ 1219 382 (bsC (K 1) (K 2) k e) = 536870912 := by rw [hPb]; unfold rp; rw [if_pos e2]; rfl
          simp (disch := (first | assumption | omega | exact Nat.le_of_ble_eq_true rfl | rfl)) only [w232_70, w232_71, w232_74, w232_75, w232_76, w232_78, w232_81, w232_83, w232_85, w232_86, w232_89, w232_90, w232_93, w232_95, w232_96, w232_99, w232_102, w232_103, w232_106, w232_107, w232_108, w232_109, w232_112, w232_114, w232_115, w232_116, w232_117, w232_120, w232_122, w232_123, w232_126, w232_129, w232_130, w232_133, w232_135, w232_136, w232_139, w232_140, w232_141, w232_142, w232_145, w232_147, w232_148, w232_149, w232_150, w232_151, Ko_n, Ko_v, vX_i, vX_r, vX_l, vX_j, reduceIte, e1, upA_t, hPb2]
          exact skip _ (Or.inr (Or.inr (Or.inl e2)))
        · have hPb2 : σ 1219 382 (bsC (K 1) (K 2) k e) = c (bsC (K 1) (K 2) k e) := by rw [hPb]; unfold rp; rw [if_neg e2]
          by_cases e3 : D k + c (bsC (K 1) (K 2) k e) < D (bsC (K 1) (K 2) k e)
          · have rd := rd_in (e := (e : Int)) (by omega) (by omega)
            have st := bfI_s (e := rdD e) h hc hN gr.2.1 hI k0 k1 rd.1 rd.2 hk e1 e2 e3
            have st2 : smD2 (fu D (bsC (K 1) (K 2) k e) (D k + c (bsC (K 1) (K 2) k e))) N < smD2 D N := st.2
            have hbk : bsC (K 1) (K 2) k e ≠ k := (nb_in h k0 k1 e1).2.2
            have hbt : bsC (K 1) (K 2) k e ≠ t := fun w => by have q := hcs; rw [w] at q e3; rw [hD] at e3; omega
            have hDk : fu D (bsC (K 1) (K 2) k e) (D k + c (bsC (K 1) (K 2) k e)) k = D k := fu_n (fun w => hbk w.symm)
            simp (disch := (first | assumption | omega | exact Nat.le_of_ble_eq_true rfl | rfl)) only [w232_70, w232_71, w232_74, w232_75, w232_76, w232_78, w232_81, w232_83, w232_85, w232_86, w232_89, w232_90, w232_93, w232_95, w232_96, w232_99, w232_102, w232_103, w232_106, w232_107, w232_108, w232_109, w232_112, w232_114, w232_115, w232_116, w232_117, w232_120, w232_122, w232_123, w232_126, w232_129, w232_130, w232_133, w232_135, w232_136, w232_139, w232_140, w232_141, w232_142, w232_145, w232_147, w232_148, w232_149, w232_150, w232_151, w232_152, w232_155, Ko_n, Ko_v, vX_i, vX_r, vX_l, vX_j, reduceIte, e1, upA_t, upA_s, hPb2, show ¬ c (bsC (K 1) (K 2) k e) = 536870912 by omega, e3, upA_upA]
            refine ih (e + 1) _ k 1 _ (by omega) k0 k1 st.1 (by rw [fu_n (fun w => hbt w.symm)]; exact hD) (by rw [hDk]; exact hk) (Or.inr rfl) fun D' mo' l5' g1 g2 g3 => hG D' mo' l5' g1 g2 (Or.inr ?_)
            rcases g3 with g3 | g3
            · exact ⟨g3.1, by rw [g3.2.1]; exact st2⟩
            · exact ⟨g3.1, by have := g3.2; omega⟩
          · simp (disch := (first | assumption | omega | exact Nat.le_of_ble_eq_true rfl | rfl)) only [w232_70, w232_71, w232_74, w232_75, w232_76, w232_78, w232_81, w232_83, w232_85, w232_86, w232_89, w232_90, w232_93, w232_95, w232_96, w232_99, w232_102, w232_103, w232_106, w232_107, w232_108, w232_109, w232_112, w232_114, w232_115, w232_116, w232_117, w232_120, w232_122, w232_123, w232_126, w232_129, w232_130, w232_133, w232_135, w232_136, w232_139, w232_140, w232_141, w232_142, w232_145, w232_147, w232_148, w232_149, w232_150, w232_151, Ko_n, Ko_v, vX_i, vX_r, vX_l, vX_j, reduceIte, e1, upA_t, upA_s, hPb2, show ¬ c (bsC (K 1) (K 2) k e) = 536870912 by omega, e3]
            exact skip _ (Or.inr (Or.inr (Or.inr (by omega))))
  -- all cells once
  have pass : ∀ (m n : Nat) (D0 D : Int → Int) (mo : Int) (l4 l5 : Value), (n : Int) + m = K 1 * K 2 → bfI (dD (K 1) (K 2) c t N) D N → D t = 0 → ((mo = 0 ∧ D = D0 ∧ ∀ k e : Int, 0 ≤ k → k < n → 0 ≤ e → e < 4 → nlD (K 1) (K 2) c D0 k e) ∨ (mo = 1 ∧ smD2 D N < smD2 D0 N)) → (∀ D' mo' l3' l4' l5', bfI (dD (K 1) (K 2) c t N) D' N → D' t = 0 → ((mo' = 0 ∧ D' = D0 ∧ ∀ k e : Int, 0 ≤ k → k < K 1 * K 2 → 0 ≤ e → e < 4 → nlD (K 1) (K 2) c D0 k e) ∨ (mo' = 1 ∧ smD2 D' N < smD2 D0 N)) → Wp (d + 2) M_X12_laysDist 34 [.ref 382, .int (i32 t), .int (i32 mo'), l3', l4', l5'] [] (E T (upA σ 1220 382 D')) Q) → Wp (d + 2) M_X12_laysDist 42 [.ref 382, .int (i32 t), .int (i32 mo), .int (i32 n), l4, l5] [] (E T (upA σ 1220 382 D)) Q := by
    intro m
    induction m with
    | zero =>
      intro n D0 D mo l4 l5 hn hI hD hs hG
      have hn' : (n : Int) = K 1 * K 2 := by omega
      rw [w232_42]
      simp (disch := (first | assumption | omega | exact Nat.le_of_ble_eq_true rfl | rfl)) only [w232_43, w232_44, w232_47, w232_50, w232_51, w232_54, w232_55, w232_56, w232_59, w232_62, w232_65, w232_66, w232_70, w232_71, w232_74, w232_75, w232_76, w232_78, w232_81, w232_83, w232_85, w232_86, w232_89, w232_90, w232_93, w232_95, w232_96, w232_99, w232_102, w232_103, w232_106, w232_107, w232_108, w232_109, w232_112, w232_114, w232_115, w232_116, w232_117, w232_120, w232_122, w232_123, w232_126, w232_129, w232_130, w232_133, w232_135, w232_136, w232_139, w232_140, w232_141, w232_142, w232_145, w232_147, w232_148, w232_149, w232_150, w232_151, w232_152, w232_155, w232_158, w232_161, w232_164, w232_167, Ko_n, Ko_v, vX_i, vX_r, vX_l, vX_j, reduceIte]
      rw [c210 (cK D)]
      simp (disch := (first | assumption | omega | exact Nat.le_of_ble_eq_true rfl | rfl)) only [w232_43, w232_44, w232_47, w232_50, w232_51, w232_54, w232_55, w232_56, w232_59, w232_62, w232_65, w232_66, w232_70, w232_71, w232_74, w232_75, w232_76, w232_78, w232_81, w232_83, w232_85, w232_86, w232_89, w232_90, w232_93, w232_95, w232_96, w232_99, w232_102, w232_103, w232_106, w232_107, w232_108, w232_109, w232_112, w232_114, w232_115, w232_116, w232_117, w232_120, w232_122, w232_123, w232_126, w232_129, w232_130, w232_133, w232_135, w232_136, w232_139, w232_140, w232_141, w232_142, w232_145, w232_147, w232_148, w232_149, w232_150, w232_151, w232_152, w232_155, w232_158, w232_161, w232_164, w232_167, Ko_n, Ko_v, vX_i, vX_r, vX_l, vX_j, reduceIte, hn', Int.le_refl]
      refine hG D mo _ _ _ hI hD ?_
      rcases hs with hs | hs
      · exact Or.inl ⟨hs.1, hs.2.1, fun k e a b => hs.2.2 k e a (by omega)⟩
      · exact Or.inr hs
    | succ m ih =>
      intro n D0 D mo l4 l5 hn hI hD hs hG
      have hmo : mo = 0 ∨ mo = 1 := by rcases hs with hs | hs; exact Or.inl hs.1; exact Or.inr hs.1
      have iN := hI n (by omega) (by omega)
      rw [w232_42]
      simp (disch := (first | assumption | omega | exact Nat.le_of_ble_eq_true rfl | rfl)) only [w232_43, w232_44, w232_47, w232_50, w232_51, w232_54, w232_55, w232_56, w232_59, w232_62, w232_65, w232_66, Ko_n, Ko_v, vX_i, vX_r, vX_l, vX_j, reduceIte]
      rw [c210 (cK D)]
      simp (disch := (first | assumption | omega | exact Nat.le_of_ble_eq_true rfl | rfl)) only [w232_43, w232_44, w232_47, w232_50, w232_51, w232_54, w232_55, w232_56, w232_59, w232_62, w232_65, w232_66, Ko_n, Ko_v, vX_i, vX_r, vX_l, vX_j, reduceIte, show ¬ K 1 * K 2 ≤ (n : Int) by omega, upA_s]
      have next : ∀ D' mo' l4' l5', bfI (dD (K 1) (K 2) c t N) D' N → D' t = 0 → ((mo' = mo ∧ D' = D ∧ ∀ e', (0 : Int) ≤ e' → e' < 4 → nlD (K 1) (K 2) c D n e') ∨ (mo' = 1 ∧ smD2 D' N < smD2 D N)) → Wp (d + 2) M_X12_laysDist 158 [.ref 382, .int (i32 t), .int (i32 mo'), .int (i32 n), l4', l5'] [] (E T (upA σ 1220 382 D')) Q := by
        intro D' mo' l4' l5' g1 g2 g3
        simp (disch := (first | assumption | omega | exact Nat.le_of_ble_eq_true rfl | rfl)) only [w232_158, w232_161, Ko_n, Ko_v, vX_i, vX_r, vX_l, vX_j, reduceIte]
        refine ih (n + 1) D0 D' mo' l4' l5' (by omega) g1 g2 ?_ hG
        rcases g3 with g3 | g3
        · rcases hs with hs | hs
          · refine Or.inl ⟨by rw [g3.1]; exact hs.1, by rw [g3.2.1]; exact hs.2.1, fun k e a b x y => ?_⟩
            by_cases ek : k = n
            · rw [ek]; have := g3.2.2 e x y; rw [hs.2.1] at this; exact this
            · exact hs.2.2 k e a (by omega) x y
          · exact Or.inr ⟨by rw [g3.1]; exact hs.1, by rw [g3.2.1]; exact hs.2⟩
        · refine Or.inr ⟨g3.1, ?_⟩
          rcases hs with hs | hs
          · rw [← hs.2.1]; exact g3.2
          · have := hs.2; have := g3.2; omega
      by_cases e1 : D n = 536870912
      · simp (disch := (first | assumption | omega | exact Nat.le_of_ble_eq_true rfl | rfl)) only [w232_43, w232_44, w232_47, w232_50, w232_51, w232_54, w232_55, w232_56, w232_59, w232_62, w232_65, w232_66, w232_70, w232_71, w232_74, w232_75, w232_76, w232_78, w232_81, w232_83, w232_85, w232_86, w232_89, w232_90, w232_93, w232_95, w232_96, w232_99, w232_102, w232_103, w232_106, w232_107, w232_108, w232_109, w232_112, w232_114, w232_115, w232_116, w232_117, w232_120, w232_122, w232_123, w232_126, w232_129, w232_130, w232_133, w232_135, w232_136, w232_139, w232_140, w232_141, w232_142, w232_145, w232_147, w232_148, w232_149, w232_150, w232_151, w232_152, w232_155, Ko_n, Ko_v, vX_i, vX_r, vX_l, vX_j, reduceIte, e1, not_true, upA_s]
        exact next D mo _ _ hI hD (Or.inl ⟨rfl, rfl, fun e' _ _ => Or.inl e1⟩)
      · simp (disch := (first | assumption | omega | exact Nat.le_of_ble_eq_true rfl | rfl)) only [w232_43, w232_44, w232_47, w232_50, w232_51, w232_54, w232_55, w232_56, w232_59, w232_62, w232_65, w232_66, Ko_n, Ko_v, vX_i, vX_r, vX_l, vX_j, reduceIte, e1, not_false_eq_true, upA_s]
        exact sides 4 0 D n mo _ (by omega) (by omega) (by omega) hI hD (by omega) hmo fun D' mo' l5' g1 g2 g3 => next D' mo' _ l5' g1 g2 g3
  -- until nothing is left
  have outer : ∀ (q : Nat) (D : Int → Int) (mo : Int) (l3 l4 l5 : Value), smD2 D N ≤ q → bfI (dD (K 1) (K 2) c t N) D N → D t = 0 → (mo = 1 ∨ (mo = 0 ∧ ∀ k e : Int, 0 ≤ k → k < K 1 * K 2 → 0 ≤ e → e < 4 → nlD (K 1) (K 2) c D k e)) → Wp (d + 2) M_X12_laysDist 34 [.ref 382, .int (i32 t), .int (i32 mo), l3, l4, l5] [] (E T (upA σ 1220 382 D)) Q := by
    intro q
    induction q with
    | zero =>
      intro D mo l3 l4 l5 hq hI hD hs
      rw [w232_34]
      rcases hs with hs | hs
      · subst hs
        simp (disch := (first | assumption | omega | exact Nat.le_of_ble_eq_true rfl | rfl)) only [w232_35, w232_38, w232_39, w232_40, w232_41, Ko_n, Ko_v, vX_i, vX_r, vX_l, vX_j, reduceIte, Int.reduceEq]
        refine pass (K 1 * K 2).toNat 0 D D 0 _ _ (by omega) hI hD (Or.inl ⟨rfl, rfl, fun k e a b => by omega⟩) fun D' mo' l3' l4' l5' g1 g2 g3 => ?_
        rcases g3 with g3 | g3
        · rw [g3.1, g3.2.1, w232_34]
          simp (disch := (first | assumption | omega | exact Nat.le_of_ble_eq_true rfl | rfl)) only [w232_35, w232_38, w232_39, w232_40, w232_41, w232_43, w232_44, w232_47, w232_50, w232_51, w232_54, w232_55, w232_56, w232_59, w232_62, w232_65, w232_66, w232_70, w232_71, w232_74, w232_75, w232_76, w232_78, w232_81, w232_83, w232_85, w232_86, w232_89, w232_90, w232_93, w232_95, w232_96, w232_99, w232_102, w232_103, w232_106, w232_107, w232_108, w232_109, w232_112, w232_114, w232_115, w232_116, w232_117, w232_120, w232_122, w232_123, w232_126, w232_129, w232_130, w232_133, w232_135, w232_136, w232_139, w232_140, w232_141, w232_142, w232_145, w232_147, w232_148, w232_149, w232_150, w232_151, w232_152, w232_155, w232_158, w232_161, w232_164, w232_167, Ko_n, Ko_v, vX_i, vX_r, vX_l, vX_j, reduceIte]
          exact hQ D (bf_end h hc hN t0 t1 ht hI hD g3.2.2)
        · exfalso
          have := smD2_nn (D := D') N (fun j hj => (g1 j (by omega) (by omega)).1.1)
          have := g3.2
          omega
      · obtain ⟨rfl, hE⟩ := hs
        simp (disch := (first | assumption | omega | exact Nat.le_of_ble_eq_true rfl | rfl)) only [w232_35, w232_38, w232_39, w232_40, w232_41, w232_43, w232_44, w232_47, w232_50, w232_51, w232_54, w232_55, w232_56, w232_59, w232_62, w232_65, w232_66, w232_70, w232_71, w232_74, w232_75, w232_76, w232_78, w232_81, w232_83, w232_85, w232_86, w232_89, w232_90, w232_93, w232_95, w232_96, w232_99, w232_102, w232_103, w232_106, w232_107, w232_108, w232_109, w232_112, w232_114, w232_115, w232_116, w232_117, w232_120, w232_122, w232_123, w232_126, w232_129, w232_130, w232_133, w232_135, w232_136, w232_139, w232_140, w232_141, w232_142, w232_145, w232_147, w232_148, w232_149, w232_150, w232_151, w232_152, w232_155, w232_158, w232_161, w232_164, w232_167, Ko_n, Ko_v, vX_i, vX_r, vX_l, vX_j, reduceIte]
        exact hQ D (bf_end h hc hN t0 t1 ht hI hD hE)
    | succ q ih =>
      intro D mo l3 l4 l5 hq hI hD hs
      rw [w232_34]
      rcases hs with hs | hs
      · subst hs
        simp (disch := (first | assumption | omega | exact Nat.le_of_ble_eq_true rfl | rfl)) only [w232_35, w232_38, w232_39, w232_40, w232_41, Ko_n, Ko_v, vX_i, vX_r, vX_l, vX_j, reduceIte, Int.reduceEq]
        refine pass (K 1 * K 2).toNat 0 D D 0 _ _ (by omega) hI hD (Or.inl ⟨rfl, rfl, fun k e a b => by omega⟩) fun D' mo' l3' l4' l5' g1 g2 g3 => ?_
        rcases g3 with g3 | g3
        · rw [g3.1, g3.2.1, w232_34]
          simp (disch := (first | assumption | omega | exact Nat.le_of_ble_eq_true rfl | rfl)) only [w232_35, w232_38, w232_39, w232_40, w232_41, w232_43, w232_44, w232_47, w232_50, w232_51, w232_54, w232_55, w232_56, w232_59, w232_62, w232_65, w232_66, w232_70, w232_71, w232_74, w232_75, w232_76, w232_78, w232_81, w232_83, w232_85, w232_86, w232_89, w232_90, w232_93, w232_95, w232_96, w232_99, w232_102, w232_103, w232_106, w232_107, w232_108, w232_109, w232_112, w232_114, w232_115, w232_116, w232_117, w232_120, w232_122, w232_123, w232_126, w232_129, w232_130, w232_133, w232_135, w232_136, w232_139, w232_140, w232_141, w232_142, w232_145, w232_147, w232_148, w232_149, w232_150, w232_151, w232_152, w232_155, w232_158, w232_161, w232_164, w232_167, Ko_n, Ko_v, vX_i, vX_r, vX_l, vX_j, reduceIte]
          exact hQ D (bf_end h hc hN t0 t1 ht hI hD g3.2.2)
        · rw [g3.1]
          exact ih D' 1 _ _ _ (by have := g3.2; omega) g1 g2 (Or.inl rfl)
      · obtain ⟨rfl, hE⟩ := hs
        simp (disch := (first | assumption | omega | exact Nat.le_of_ble_eq_true rfl | rfl)) only [w232_35, w232_38, w232_39, w232_40, w232_41, w232_43, w232_44, w232_47, w232_50, w232_51, w232_54, w232_55, w232_56, w232_59, w232_62, w232_65, w232_66, w232_70, w232_71, w232_74, w232_75, w232_76, w232_78, w232_81, w232_83, w232_85, w232_86, w232_89, w232_90, w232_93, w232_95, w232_96, w232_99, w232_102, w232_103, w232_106, w232_107, w232_108, w232_109, w232_112, w232_114, w232_115, w232_116, w232_117, w232_120, w232_122, w232_123, w232_126, w232_129, w232_130, w232_133, w232_135, w232_136, w232_139, w232_140, w232_141, w232_142, w232_145, w232_147, w232_148, w232_149, w232_150, w232_151, w232_152, w232_155, w232_158, w232_161, w232_164, w232_167, Ko_n, Ko_v, vX_i, vX_r, vX_l, vX_j, reduceIte]
        exact hQ D (bf_end h hc hN t0 t1 ht hI hD hE)
  -- the start
  have loop : ∀ (m n : Nat), (n : Int) + m = K 1 * K 2 → Wp (d + 2) M_X12_laysDist 2 [.ref 382, .int (i32 t), .int (i32 n), vmJ, vmJ, vmJ] [] (E T (upA σ 1220 382 (fil (σ 1220 382) n hiR))) Q := by
    intro m
    induction m with
    | zero =>
      intro n hn
      have hn' : (n : Int) = K 1 * K 2 := by omega
      have hI : bfI (dD (K 1) (K 2) c t N) (fu (fil (σ 1220 382) n hiR) t 0) N := fun z z0 z1 => by
        by_cases e : z = t
        · rw [e, fu_s]
          refine ⟨⟨by omega, by omega⟩, fun _ => ⟨?_, ?_⟩⟩
          · rw [dD_0 h hc hN t0 t1 ht]; omega
          · have := cnt_lt (p := fun _ => false) (q := fun z => decide (fu (fil (σ 1220 382) n hiR) t 0 z < hiR)) (j := t.toNat) (by
              rw [show ((t.toNat : Nat) : Int) = t by omega]
              exact decide_eq_true (by rw [fu_s]; omega)) rfl N (fun _ _ w => by cases w) (by omega)
            have c0 := (cnt_in (p := fun _ => false) N).1
            have tt : cnt (fun _ => false) N + 1 ≤ fnD (fu (fil (σ 1220 382) n hiR) t 0) N := this
            omega
        · rw [fu_n e]
          have : fil (σ 1220 382) n hiR z = hiR := by unfold fil; rw [if_pos (by omega)]
          rw [this]
          exact ⟨⟨by omega, by omega⟩, fun w => by omega⟩
      rw [w232_2]
      simp (disch := (first | assumption | omega | exact Nat.le_of_ble_eq_true rfl | rfl)) only [w232_3, w232_4, w232_7, w232_10, w232_11, w232_14, w232_15, w232_18, w232_19, w232_22, w232_25, w232_26, w232_29, w232_30, w232_31, w232_32, w232_33, Ko_n, Ko_v, vX_i, vX_r, vX_l, vX_j, reduceIte]
      rw [c210 (cK _)]
      simp (disch := (first | assumption | omega | exact Nat.le_of_ble_eq_true rfl | rfl)) only [w232_3, w232_4, w232_7, w232_10, w232_11, w232_14, w232_15, w232_18, w232_19, w232_22, w232_25, w232_26, w232_29, w232_30, w232_31, w232_32, w232_33, Ko_n, Ko_v, vX_i, vX_r, vX_l, vX_j, reduceIte, hn', Int.le_refl, upA_s, upA_upA]
      rw [hn'] at hI
      exact outer (smD2 (fu (fil (σ 1220 382) (K 1 * K 2) hiR) t 0) N).toNat _ 1 _ _ _ (by omega) hI fu_s (Or.inl rfl)
    | succ m ih =>
      intro n hn
      have ih' := ih (n + 1) (by omega)
      rw [show ((n + 1 : Nat) : Int) = (n : Int) + 1 by omega, ← fil_fu (by omega)] at ih'
      rw [w232_2]
      simp (disch := (first | assumption | omega | exact Nat.le_of_ble_eq_true rfl | rfl)) only [w232_3, w232_4, w232_7, w232_10, w232_11, w232_14, w232_15, w232_18, w232_19, w232_22, w232_25, w232_26, w232_29, w232_30, w232_31, w232_32, w232_33, Ko_n, Ko_v, vX_i, vX_r, vX_l, vX_j, reduceIte]
      rw [c210 (cK _)]
      simp (disch := (first | assumption | omega | exact Nat.le_of_ble_eq_true rfl | rfl)) only [w232_3, w232_4, w232_7, w232_10, w232_11, w232_14, w232_15, w232_18, w232_19, w232_22, w232_25, w232_26, w232_29, w232_30, w232_31, w232_32, w232_33, Ko_n, Ko_v, vX_i, vX_r, vX_l, vX_j, reduceIte, show ¬ K 1 * K 2 ≤ (n : Int) by omega, upA_s, upA_upA]
      exact ih'
  have l := loop (K 1 * K 2).toNat 0 (by omega)
  rw [show ((0 : Nat) : Int) = 0 from rfl, fil_0, upA_self] at l
  simp (disch := (first | assumption | omega | exact Nat.le_of_ble_eq_true rfl | rfl)) only [w232_0, w232_1, Ko_n, Ko_v, vX_i, vX_r, vX_l, vX_j, reduceIte]
  exact l
