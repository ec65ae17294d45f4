/-! ===== deeds of the class are those on the state ===== -/
def fS (s : Nat) (σ τ : St) : Prop := ∀ t o, (t = 102 ∨ (300 ≤ t ∧ t < 600) ∨ (700 ≤ t ∧ t < 900 ∧ o ≠ 67 ∧ o ≠ s) ∨ 1100 ≤ t) → τ t o = σ t o
theorem fS_r {s : Nat} {σ : St} : fS s σ σ := fun _ _ _ => rfl
theorem fS_t {s : Nat} {σ τ ρ : St} (h1 : fS s σ τ) (h2 : fS s τ ρ) : fS s σ ρ := fun t o h => (h2 t o h).trans (h1 t o h)
theorem fS_u {s : Nat} {σ τ : St} {t o : Nat} {f : Int → Int} (h1 : fS s σ τ) (h : (t < 300 ∧ t ≠ 102) ∨ (600 ≤ t ∧ t < 700) ∨ (900 ≤ t ∧ t < 1100) ∨ (700 ≤ t ∧ t < 900 ∧ (o = s ∨ o = 67))) : fS s σ (upA τ t o f) := fun t' o' h' => by
  by_cases e : t' = t
  · by_cases e2 : o' = o
    · exfalso; subst e; subst e2; omega
    · rw [upA_o e2]; exact h1 t' o' h'
  · rw [upA_t e]; exact h1 t' o' h'
theorem fS_sg {σ τ : St} (h : fS 67 σ τ) : sg σ τ := fun t o ht => h t o (by omega)
theorem tpl_fr {σ τ : St} {p : Nat} {K : Int → Int} (hs : ∀ t o, 300 ≤ t → t < 600 → τ t o = σ t o) (h : tpl σ p K) : tpl τ p K := by
  obtain ⟨h0, h1, h2, h3, h4, h5, h6, h7, h8, h9, h10⟩ := h
  refine ⟨?_, ?_, ?_, ?_, ?_, ?_, ?_, ?_, ?_, ?_, ?_⟩
  · rw [hs _ _ (by omega) (by omega)]; exact h0
  · rw [hs _ _ (by omega) (by omega)]; exact h1
  · rw [hs _ _ (by omega) (by omega)]; exact h2
  · rw [hs _ _ (by omega) (by omega)]; exact h3
  · rw [hs _ _ (by omega) (by omega)]; exact h4
  · rw [hs _ _ (by omega) (by omega)]; exact h5
  · rw [hs _ _ (by omega) (by omega)]; exact h6
  · rw [hs _ _ (by omega) (by omega)]; exact h7
  · rw [hs _ _ (by omega) (by omega), hs _ _ (by omega) (by omega)]; exact h8
  · exact geo_t h9 (hs _ _ (by omega) (by omega)) (hs _ _ (by omega) (by omega)) (hs _ _ (by omega) (by omega)) (hs _ _ (by omega) (by omega)) (hs _ _ (by omega) (by omega)) (hs _ _ (by omega) (by omega))
  · rw [hs _ _ (by omega) (by omega)]; exact h10
theorem wa_cg {f f' : Int → Int} {k : Int} : ∀ n : Nat, (∀ j : Nat, j < n → f j = f' j) → wa f k n = wa f' k n
  | 0, _ => rfl
  | n + 1, h => by
    simp only [wa]
    rw [wa_cg n (fun j hj => h j (by omega)), h n (by omega)]
theorem opB_agr {f f' : Int → Int} {n : Int} (hn : n ≤ 36) (h : agr 36 f f') : opB f n = opB f' n := by
  funext k
  unfold opB
  by_cases e : 0 ≤ k ∧ k < n
  · rw [h k e.1 (by omega)]
  · rw [decide_eq_false (fun z => e ⟨z.1, z.2.1⟩), decide_eq_false (fun z => e ⟨z.1, z.2.1⟩)]
theorem whyE {σ : St} {s : Nat} {K : Int → Int} {B v : Int} (hP : tpl σ 3 K) (hT : tsc σ s K 7) (hv : kV K B) : why σ 3 s (K 1) (K 2) v = whyK K v := by
  have hp := hv.1
  have hm := wh_mul0 hp.1
  have h3 := hp.2.1
  have hW := tsc_W.mp hT
  have e4 : σ 404 3 0 = K 3 := hP.2.2.2.1
  unfold why whyK
  rw [e4]
  by_cases e1 : v = -1
  · rw [if_pos e1, if_pos e1]
  · rw [if_neg e1, if_neg e1]
    by_cases e2 : v < 0 ∨ 2400 ≤ v
    · rw [if_pos e2, if_pos e2]
    · rw [if_neg e2, if_neg e2]
      by_cases e3 : ¬ v % 100 < K 1 * K 2
      · rw [if_pos e3, if_pos e3]
      · rw [if_neg e3, if_neg e3]
        by_cases e5 : v / 100 < K 3
        · rw [if_pos e5, if_pos e5, opB_agr (by omega) (tsc_k hT), (hW.2.1 (v / 100) (by omega) e5).1]
          have := dK_fl (z := v % 100) hv (by omega) e5 (by omega) (by omega)
          by_cases e6 : dK K (v / 100) (v % 100) < far
          · rw [if_pos e6, if_pos (this.mpr e6)]
          · rw [if_neg e6, if_neg (fun z => e6 (this.mp z))]
        · rw [if_neg e5, if_neg e5, hgB_agr (tsc_k hT)]
          by_cases e6 : v / 100 = 10
          · rw [if_pos e6, if_pos e6]
          · rw [if_neg e6, if_neg e6]
            by_cases e7 : 20 < v / 100
            · rw [if_pos e7, if_pos e7, (hW.1 (v % 100) (by omega) (by omega)).1]
              have : wa (σ 702 s) (v % 100) (K 3).toNat = waK K (v % 100) := wa_cg _ (fun j hj => (hW.2.1 j (by omega) (by omega)).1)
              rw [this]
            · rw [if_neg e7, if_neg e7]
theorem grE {σ : St} {s : Nat} {K : Int → Int} {B z : Int} (hP : tpl σ 3 K) (hT : tsc σ s K 7) (hv : kV K B) (z0 : 0 ≤ z) (z1 : z < 36) : grB (K 1) (K 2) (σ 700 s) (σ 701 s) (σ 705 s 0) (σ 300 (3 + 4)) (K 5).toNat z = grK K z := by
  have h5 := hv.1.2.2.2.1
  rw [grB_agr (tsc_k hT) (tsc_t hT) z0 z1, (tsc_W.mp hT).2.2.2.1]
  unfold grK
  exact grB_cd (fun i hi => hP.2.2.2.2.2.2.2.2.2.2 i (by omega) (by omega))
theorem prE {σ : St} {s : Nat} {K : Int → Int} {w : Int} (hP : tpl σ 3 K) (hT : tsc σ s K 7) : agr 36 (prc σ 3 s (frB (σ 405 3 0) w)) (prK K w) := fun j j0 j1 => by
  unfold prc prK
  rw [show σ 403 3 0 = K 4 from hP.2.2.2.2.1, show σ 405 3 0 = K 92 from hP.2.2.2.2.2.2.1, (tsc_W.mp hT).2.2.2.1]
  exact cst_agr (tsc_k hT j j0 j1) (tsc_t hT j j0 j1)
theorem actK {d : Nat} {k v B : Int} {s : Nat} {K : Int → Int} {T : Tt} {σ : St} {Q : vmO → vmH → Prop} (hs : ob 7 s) (hP : tpl σ 3 K) (hT : tsc σ s K 7) (hv : kV K B) (hB : B < 900000000) (hw : whyK K v = 0)
    (hQ : ∀ τ, fS s σ τ → tsc τ s (doK K v) 7 → Q (.inl none) (E T τ)) : Ca (d + 6) k 11 [.ref 179, .ref 3, .ref s, .int (i32 v)] (E T σ) Q := by
  have hp := hv.1
  have hm := wh_mul0 hp.1
  have h3 := hp.2.1
  have h5 := hp.2.2.2.1
  have hW := tsc_W.mp hT
  have hS := tsc_sc hT hv.2.1 (by omega)
  have hge : geo σ 3 (K 1) (K 2) := hP.2.2.2.2.2.2.2.2.2.1
  have e4 : σ 404 3 0 = K 3 := hP.2.2.2.1
  have e31 : σ 301 (3 + 4) 0 = ((K 5).toNat : Nat) := by
    have : σ 301 (3 + 4) 0 = K 5 := hP.2.2.2.2.2.1
    rw [this]; omega
  have hlaw : lawG (σ 300 (3 + 4)) (K 5).toNat := lawG_cd (cd := cdK K) (fun i hi => (hP.2.2.2.2.2.2.2.2.2.2 i (by omega) (by omega)).symm) hp.2.2.2.2.2.2.2.1
  have hat : ∀ w : Nat, (w : Int) < σ 404 3 0 → 0 ≤ σ 702 s w ∧ σ 702 s w < K 1 * K 2 := fun w hw => by
    rw [e4] at hw
    rw [(hW.2.1 w (by omega) hw).1]
    exact (kV_w hv (by omega) hw).2.2.1
  refine c11 (N := nK K) (many := (K 5).toNat) ob_p3 hs hge hp.1 (nK_c hp) ⟨by rw [hP.2.2.2.2.1]; exact hp.2.2.1.1, by rw [hP.2.2.2.2.1]; exact hp.2.2.1.2, by rw [hP.2.2.2.2.2.2.1]; exact hp.2.2.2.2.2.1.1, by rw [hP.2.2.2.2.2.2.1]; exact hp.2.2.2.2.2.1.2⟩ hS e31 (by omega) hlaw (by omega) (by omega) hat (by rw [whyE hP hT hv]; exact hw) ?_ ?_ ?_ ?_
  · intro e F S
    refine hQ _ (by unfold nsS; exact fS_u (fS_u (fS_u (fS_u (fS_u fS_r (by omega)) (by omega)) (by omega)) (by omega)) (by omega)) ?_
    unfold doK
    rw [if_pos e, tsc_W]
    refine ⟨?_, ?_, ?_, ?_, ?_⟩
    · intro j j0 j1
      rw [nst (by omega) (by omega) (by omega) (by omega) (by omega), ns1, ngK_o (j := 7 + j) (by omega), ngK_t j0 j1]
      refine ⟨(hW.1 j j0 j1).1, ?_⟩
      unfold cp thk
      rw [grE hP hT hv j0 j1, (hW.1 j j0 j1).2, nK_c hp]
      by_cases e1 : j < K 1 * K 2
      · rw [if_pos ⟨j0, e1⟩]
        by_cases e2 : grK K j = true
        · rw [if_pos e2, if_pos ⟨e1, e2⟩]
        · rw [if_neg e2, if_neg (fun t => e2 t.2)]
      · rw [if_neg (fun t => e1 t.2), if_neg (fun t => e1 t.1)]
    · intro w w0 w1
      rw [ngK_o (j := 3) (by omega)] at w1
      rw [nst (by omega) (by omega) (by omega) (by omega) (by omega), nst (by omega) (by omega) (by omega) (by omega) (by omega), ngK_o (j := 79 + w) (by omega), ngK_o (j := 84 + w) (by omega)]
      exact hW.2.1 w w0 w1
    · rw [ns4, ngK_9.1]
    · rw [ns5, ngK_9.2, hW.2.2.2.1]
    · rw [nst (by omega) (by omega) (by omega) (by omega) (by omega), ngK_o (j := 91) (by omega)]; exact hW.2.2.2.2
  · intro e1 e2
    rcases whyK_0 hw (by omega) with e | ⟨ez, e | e | e⟩
    · exact absurd e e1
    · obtain ⟨h, w5, a, a4⟩ := kV_w hv e.2.2.1 e.2.2.2.1
      have ea := (hW.2.1 (v / 100) e.2.2.1 e.2.2.2.1).1
      have hcs := cst_cs (e := σ 1000 180) (wi := wiB (σ 403 3 0) (σ 705 s 0)) (fr := frB (σ 405 3 0) (v / 100)) (N := K 1 * K 2) (by omega) hS.1 hS.2.1
      have hag : agr (K 1 * K 2) (cp (prc σ 3 s (frB (σ 405 3 0) (v / 100))) (σ 1000 180) (K 1 * K 2)) (prK K (v / 100)) := fun j j0 j1 => by
        rw [cp_lt j0 j1]
        exact prE hP hT j j0 (by omega)
      have ed : (spr (K 1) (K 2) (cp (prc σ 3 s (frB (σ 405 3 0) (v / 100))) (σ 1000 180) (K 1 * K 2)) (σ 702 s (v / 100)) (nK K) (σ 1001 180) (σ 1005 180)).1 (v % 100) = dK K (v / 100) (v % 100) := by
        rw [ea]
        exact spr_dD h hag hcs (nK_c hp) a.1 a.2 (v % 100) ez.1 (by omega)
      have q := hQ (gtS σ 3 s (K 1) (K 2) (v / 100) (v % 100) (nK K)) (by unfold gtS wyD wyS; exact fS_u (fS_u (fS_u (fS_u (fS_u (fS_u (fS_u (fS_u fS_r (by omega)) (by omega)) (by omega)) (by omega)) (by omega)) (by omega)) (by omega)) (by omega))
      refine q ?_
      unfold doK
      rw [if_neg e1, if_pos e2, tsc_W]
      unfold gtS
      rw [ed]
      obtain ⟨ga, gb, gc⟩ := goK_a (K := K) (z := v % 100) (c := dK K (v / 100) (v % 100)) e.2.2.1 w5
      have eo : ∀ t X C, t < 1000 → wyD (upA σ 1000 180 C) 180 X t s = σ t s := fun t X C ht => by
        unfold wyD
        rw [wyt (by omega) (by omega) (by omega) (by omega), upA_t (by omega)]
      refine ⟨?_, ?_, ?_, ?_, ?_⟩
      · intro j j0 j1
        rw [upA_t (by omega), upA_t (by omega), upA_t (by omega), eo _ _ _ (by omega), upA_t (by omega), upA_t (by omega), upA_t (by omega), eo _ _ _ (by omega), goK_o (j := 7 + j) e.2.2.1 w5 (by omega), goK_o (j := 43 + j) e.2.2.1 w5 (by omega)]
        exact hW.1 j j0 j1
      · intro w w0 w1
        rw [goK_o (j := 3) e.2.2.1 w5 (by omega)] at w1
        rw [upA_s, upA_t (by omega), upA_s]
        by_cases ew : w = v / 100
        · rw [ew, fu_s, fu_s, ga, gb, (hW.2.1 (v / 100) e.2.2.1 e.2.2.2.1).2]
          exact ⟨rfl, rfl⟩
        · rw [fu_n ew, fu_n ew, goK_o (j := 79 + w) e.2.2.1 w5 (by omega), goK_o (j := 84 + w) e.2.2.1 w5 (by omega)]
          exact hW.2.1 w w0 w1
      · rw [upA_t (by omega), upA_t (by omega), upA_s, gc, hW.2.2.1]
      · rw [upA_t (by omega), upA_t (by omega), upA_t (by omega), eo _ _ _ (by omega), goK_o (j := 90) e.2.2.1 w5 (by omega)]
        exact hW.2.2.2.1
      · rw [upA_t (by omega), upA_t (by omega), upA_t (by omega), eo _ _ _ (by omega), goK_o (j := 91) e.2.2.1 w5 (by omega)]
        exact hW.2.2.2.2
    · omega
    · omega
  · intro e1 e2
    have ez : 0 ≤ v % 100 ∧ v % 100 < K 1 * K 2 := by
      rcases whyK_0 hw (by omega) with e | ⟨ez, _⟩
      · omega
      · exact ez
    refine hQ _ (by unfold shr; exact fS_u (fS_u (fS_u fS_r (by omega)) (by omega)) (by omega)) ?_
    have ed : doK K v = clK K (v % 100) (min 1 (K (43 + v % 100))) := by
      unfold doK
      rw [if_neg (by omega), if_neg (by omega), if_pos e2]
    rw [ed, tsc_W]
    unfold shr
    rw [(hW.1 (v % 100) ez.1 (by omega)).2]
    obtain ⟨ga, gb, gc⟩ := clK_a (K := K) (m := min 1 (K (43 + v % 100))) ez.1 (by omega : v % 100 < 36)
    refine ⟨?_, ?_, ?_, ?_, ?_⟩
    · intro j j0 j1
      rw [upA_s, upA_t (by omega), upA_s]
      by_cases ej : j = v % 100
      · rw [ej, fu_s, ga, gc]
        refine ⟨?_, rfl⟩
        by_cases e0 : K (43 + v % 100) - min 1 (K (43 + v % 100)) = 0
        · rw [if_pos e0, if_pos e0, fu_s]
        · rw [if_neg e0, if_neg e0]; exact (hW.1 (v % 100) ez.1 (by omega)).1
      · rw [fu_n ej, clK_o (j := 7 + j) (by omega), clK_o (j := 43 + j) (by omega)]
        refine ⟨?_, (hW.1 j j0 j1).2⟩
        split
        · rw [fu_n ej]; exact (hW.1 j j0 j1).1
        · exact (hW.1 j j0 j1).1
    · intro w w0 w1
      rw [clK_o (j := 3) (by omega)] at w1
      rw [upA_t (by omega), upA_t (by omega), upA_t (by omega), upA_t (by omega), upA_t (by omega), upA_t (by omega), clK_o (j := 79 + w) (by omega), clK_o (j := 84 + w) (by omega)]
      exact hW.2.1 w w0 w1
    · rw [upA_t (by omega), upA_t (by omega), upA_t (by omega), clK_o (j := 89) (by omega)]; exact hW.2.2.1
    · rw [upA_t (by omega), upA_t (by omega), upA_t (by omega), clK_o (j := 90) (by omega)]; exact hW.2.2.2.1
    · rw [upA_t (by omega), upA_t (by omega), upA_s, gb, hW.2.2.2.2]
  · intro e1
    have ez : 0 ≤ v % 100 ∧ v % 100 < K 1 * K 2 := by
      rcases whyK_0 hw (by omega) with e | ⟨ez, _⟩
      · omega
      · exact ez
    refine hQ _ (fS_u (fS_u fS_r (by omega)) (by omega)) ?_
    unfold doK
    rw [if_neg (by omega), if_neg (by omega), if_neg (by omega), tsc_W]
    obtain ⟨ga, gb⟩ := ptK2_a (K := K) (z := v % 100) (kd := v / 100 % 10)
    refine ⟨?_, ?_, ?_, ?_, ?_⟩
    · intro j j0 j1
      rw [upA_t (by omega), upA_s, upA_s]
      by_cases ej : j = v % 100
      · rw [ej, fu_s, fu_s, ga, gb]; exact ⟨rfl, rfl⟩
      · rw [fu_n ej, fu_n ej, ptK2_o (j := 7 + j) (by omega), ptK2_o (j := 43 + j) (by omega)]
        exact hW.1 j j0 j1
    · intro w w0 w1
      rw [ptK2_o (j := 3) (by omega)] at w1
      rw [upA_t (by omega), upA_t (by omega), upA_t (by omega), upA_t (by omega), ptK2_o (j := 79 + w) (by omega), ptK2_o (j := 84 + w) (by omega)]
      exact hW.2.1 w w0 w1
    · rw [upA_t (by omega), upA_t (by omega), ptK2_o (j := 89) (by omega)]; exact hW.2.2.1
    · rw [upA_t (by omega), upA_t (by omega), ptK2_o (j := 90) (by omega)]; exact hW.2.2.2.1
    · rw [upA_t (by omega), upA_t (by omega), ptK2_o (j := 91) (by omega)]; exact hW.2.2.2.2
