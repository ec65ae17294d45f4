/-! ===== deeds on the state ===== -/
def stK (K K' : Int → Int) : Prop := ∀ j, j < 7 ∨ 92 ≤ j → K' j = K j
theorem stK_r {K : Int → Int} : stK K K := fun _ _ => rfl
theorem stK_t {K K' K2 : Int → Int} (h1 : stK K K') (h2 : stK K' K2) : stK K K2 := fun j hj => (h2 j hj).trans (h1 j hj)
theorem stK_cd {K K' : Int → Int} (h : stK K K') (i : Nat) : cdK K' i = cdK K i := by
  unfold cdK
  rw [h _ (by omega)]
theorem stK_n {K K' : Int → Int} (h : stK K K') : nK K' = nK K := by
  unfold nK
  rw [h 1 (by omega), h 2 (by omega)]
theorem tpl_st {σ : St} {p : Nat} {K K' : Int → Int} (h : stK K K') (ht : tpl σ p K) : tpl σ p K' := by
  obtain ⟨h0, h1, h2, h3, h4, h5, h6, h7, h8, h9, h10⟩ := ht
  refine ⟨?_, ?_, ?_, ?_, ?_, ?_, ?_, ?_, ?_, ?_, ?_⟩
  · rw [h 0 (by omega)]; exact h0
  · rw [h 1 (by omega)]; exact h1
  · rw [h 2 (by omega)]; exact h2
  · rw [h 3 (by omega)]; exact h3
  · rw [h 4 (by omega)]; exact h4
  · rw [h 5 (by omega)]; exact h5
  · rw [h 92 (by omega)]; exact h6
  · intro w w0 w1; rw [h _ (by omega)]; exact h7 w w0 w1
  · intro w e w0 w1 e0 e1
    rw [h _ (by omega)] at e1
    rw [h _ (by omega), h _ (by omega)]
    exact h8 w e w0 w1 e0 e1
  · rw [h 1 (by omega), h 2 (by omega)]; exact h9
  · intro i i0 i1
    rw [h 5 (by omega)] at i1
    have := stK_cd h i.toNat
    rw [show ((i.toNat : Nat) : Int) = i by omega] at this
    rw [this]
    exact h10 i i0 i1
theorem plV_st {K K' : Int → Int} (h : stK K K') (hv : plV K) : plV K' := by
  obtain ⟨h0, h1, h2, h3, h4, h5, h6, h7, h8⟩ := hv
  have e5 : K' 5 = K 5 := h 5 (by omega)
  refine ⟨?_, ?_, ?_, ?_, ?_, ?_, ?_, ?_, ?_⟩
  · rw [h 1 (by omega), h 2 (by omega)]; exact h0
  · rw [h 3 (by omega)]; exact h1
  · rw [h 4 (by omega)]; exact h2
  · rw [e5]; exact h3
  · rw [h 6 (by omega)]; exact h4
  · rw [h 92 (by omega)]; exact h5
  · intro w w0 w1
    rw [h (93 + w) (by omega)]
    refine ⟨(h6 w w0 w1).1, (h6 w w0 w1).2.1, fun e e0 e1 => ?_⟩
    rw [h (98 + 4 * w + e) (by omega), h (118 + 4 * w + e) (by omega), h 1 (by omega), h 2 (by omega)]
    exact (h6 w w0 w1).2.2 e e0 e1
  · rw [e5]; exact lawG_cd (fun i _ => (stK_cd h i).symm) h7
  · rw [h 0 (by omega)]; exact h8
theorem scV_st {K K' : Int → Int} {o B B' : Int} (h : stK K K') (ho : 92 ≤ o) (hB : B ≤ B') (hv : scV K o B) : scV K' o B' := by
  obtain ⟨h0, h1, h2, h3, h4⟩ := hv
  refine ⟨?_, ?_, ?_, ?_, ?_⟩
  · intro k k0 k1
    rw [h (o + k) (by omega), h (o + 36 + k) (by omega), h 1 (by omega), h 2 (by omega)]
    exact h0 k k0 k1
  · intro w w0 w1
    rw [h 3 (by omega)] at w1
    have q := h1 w w0 w1
    rw [h (o + 72 + w) (by omega), h (o + K (o + 72 + w)) (by omega), h (o + 77 + w) (by omega), h 1 (by omega), h 2 (by omega)]
    exact ⟨q.1, q.2.1, q.2.2.1, by omega⟩
  · rw [h (o + 82) (by omega)]; omega
  · rw [h (o + 83) (by omega)]; omega
  · rw [h (o + 84) (by omega)]; omega
theorem prK_w {K : Int → Int} {B w k : Int} (hv : scV K 7 B) (k0 : 0 ≤ k) (k1 : k < 36) : prK K w k = -1 ↔ K (7 + k) = 4 := by
  have hk := scV_k hv k k0 k1
  have ht := scV_t hv k k0 k1
  unfold prK cst
  have e : kdK K 7 k = K (7 + k) := rfl
  rw [e] at hk ⊢
  constructor
  · intro hx
    by_cases e4 : K (7 + k) = 4
    · exact e4
    · exfalso
      rw [if_neg e4] at hx
      by_cases e2 : frB (K 92) w = true ∨ K (7 + k) = 0
      · rw [if_pos e2] at hx; omega
      · rw [if_neg e2] at hx
        have hp : 0 ≤ tkK K 7 k * K (7 + k) := Int.mul_nonneg ht.1 hk.1
        split at hx <;> omega
  · intro e4
    rw [if_pos e4]
theorem prK_cs {K : Int → Int} {B w : Int} (hp : plV K) (hv : scV K 7 B) : csIn (prK K w) (K 1 * K 2) := by
  have hm := wh_mul0 hp.1
  intro k k0 k1
  exact cst_in (scV_k hv) (scV_t hv) k0 (by omega)
theorem kV_w {K : Int → Int} {B w : Int} (hv : kV K B) (w0 : 0 ≤ w) (w1 : w < K 3) : wh2 (K 1) (K 2) ∧ w < 5 ∧ (0 ≤ K (79 + w) ∧ K (79 + w) < K 1 * K 2) ∧ K (7 + K (79 + w)) ≠ 4 := by
  obtain ⟨hp, hs, -⟩ := hv
  have := hs.2.1 w w0 w1
  rw [show (7 : Int) + 72 + w = 79 + w by omega] at this
  refine ⟨?_, by have := hp.2.1; omega, this.1, this.2.1⟩
  rcases hp.1 with ⟨e1, e2⟩ | h
  · rw [e1, e2] at this; omega
  · exact h
theorem dK_fl {K : Int → Int} {B w z : Int} (hv : kV K B) (w0 : 0 ≤ w) (w1 : w < K 3) (z0 : 0 ≤ z) (z1 : z < K 1 * K 2) : flI (K 1) (K 2) (opB (kdK K 7) (K 1 * K 2)) (K (79 + w)) 36 z = true ↔ dK K w z < far := by
  obtain ⟨h, w5, a, _⟩ := kV_w hv w0 w1
  have hm := wh_mul h
  refine flI_dD h (prK_cs hv.1 hv.2.1) (nK_c hv.1) (fun k hk => ?_) (fun k k0 k1 => ?_) a.1 a.2 z0 z1
  · have := of_decide_eq_true hk; exact ⟨this.1, this.2.1⟩
  · show _ ↔ ¬ prK K w k = -1
    rw [not_congr (prK_w hv.2.1 k0 (by omega))]
    constructor
    · intro hk; exact (of_decide_eq_true hk).2.2
    · intro hk; exact decide_eq_true ⟨k0, k1, hk⟩
theorem dK_no4 {K : Int → Int} {B w z : Int} (hv : kV K B) (w0 : 0 ≤ w) (w1 : w < K 3) (z0 : 0 ≤ z) (z1 : z < K 1 * K 2) (hf : dK K w z < far) : K (7 + z) ≠ 4 ∧ 0 ≤ dK K w z ∧ dK K w z ≤ 6516 := by
  obtain ⟨h, w5, a, a4⟩ := kV_w hv w0 w1
  have hm := wh_mul h
  refine ⟨?_, ?_⟩
  · by_cases e : z = K (79 + w)
    · rw [e]; exact a4
    · obtain ⟨d, _, _, _, h4, _⟩ := dD_by h (prK_cs hv.1 hv.2.1) (nK_c hv.1) z0 z1 e hf
      exact fun e4 => h4 ((prK_w hv.2.1 z0 (by omega)).mpr e4)
  · rcases dD_bnd (z := K (79 + w)) h (prK_cs (w := w) hv.1 hv.2.1) (nK_c hv.1) z0 (by omega : z < 36) with e | e
    · exact e
    · have : dK K w z = far := e
      omega
/-- the same, of the state now, with plain places -/
def scW (K : Int → Int) (B : Int) : Prop := (∀ k, 0 ≤ k → k < 36 → (0 ≤ K (7 + k) ∧ K (7 + k) ≤ 4) ∧ (0 ≤ K (43 + k) ∧ K (43 + k) ≤ 60) ∧ (K (7 + k) = 0 ∨ K (7 + k) = 4 → K (43 + k) = 0) ∧ (K (43 + k) = 0 → K (7 + k) = 0 ∨ K (7 + k) = 4) ∧ (K 1 * K 2 ≤ k → K (7 + k) = 0)) ∧ (∀ w, 0 ≤ w → w < K 3 → (0 ≤ K (79 + w) ∧ K (79 + w) < K 1 * K 2) ∧ K (7 + K (79 + w)) ≠ 4 ∧ 0 ≤ K (84 + w) ∧ K (84 + w) ≤ B) ∧ (0 ≤ K 89 ∧ K 89 ≤ B) ∧ (0 ≤ K 90 ∧ K 90 ≤ B) ∧ 0 ≤ K 91 ∧ K 91 ≤ B
theorem scV_W {K : Int → Int} {B : Int} : scV K 7 B ↔ scW K B := by
  unfold scV scW
  simp only [show ∀ k : Int, 7 + 36 + k = 43 + k from fun k => by omega, show ∀ w : Int, 7 + 72 + w = 79 + w from fun w => by omega, show ∀ w : Int, 7 + 77 + w = 84 + w from fun w => by omega, show (7 : Int) + 82 = 89 from rfl, show (7 : Int) + 83 = 90 from rfl, show (7 : Int) + 84 = 91 from rfl]
def tsW (σ : St) (s : Nat) (K : Int → Int) : Prop := (∀ k, 0 ≤ k → k < 36 → σ 700 s k = K (7 + k) ∧ σ 701 s k = K (43 + k)) ∧ (∀ w, 0 ≤ w → w < K 3 → σ 702 s w = K (79 + w) ∧ σ 703 s w = K (84 + w)) ∧ σ 704 s 0 = K 89 ∧ σ 705 s 0 = K 90 ∧ σ 706 s 0 = K 91
theorem tsc_W {σ : St} {s : Nat} {K : Int → Int} : tsc σ s K 7 ↔ tsW σ s K := by
  unfold tsc tsW
  simp only [show ∀ k : Int, 7 + 36 + k = 43 + k from fun k => by omega, show ∀ w : Int, 7 + 72 + w = 79 + w from fun w => by omega, show ∀ w : Int, 7 + 77 + w = 84 + w from fun w => by omega, show (7 : Int) + 82 = 89 from rfl, show (7 : Int) + 83 = 90 from rfl, show (7 : Int) + 84 = 91 from rfl]
/-- a night -/
theorem ngK_st {K : Int → Int} : stK K (ngK K) := fun j hj => by
  unfold ngK
  rw [if_neg (by omega), if_neg (by omega), if_neg (by omega)]
theorem ngK_o {K : Int → Int} {j : Int} (h : j < 43 ∨ (79 ≤ j ∧ j < 89) ∨ 90 < j) : ngK K j = K j := by
  unfold ngK
  rw [if_neg (by omega), if_neg (by omega), if_neg (by omega)]
theorem ngK_t {K : Int → Int} {k : Int} (k0 : 0 ≤ k) (k1 : k < 36) : ngK K (43 + k) = if k < K 1 * K 2 ∧ grK K k = true then K (43 + k) + 1 else K (43 + k) := by
  unfold ngK
  rw [if_pos (by omega), show 43 + k - 43 = k by omega]
theorem ngK_9 {K : Int → Int} : ngK K 89 = 0 ∧ ngK K 90 = K 90 + 1 := ⟨rfl, rfl⟩
theorem grK_h {K : Int → Int} {k : Int} (h : grK K k = true) : hgB (kdK K 7) k = true ∧ K (43 + k) < 60 := by
  unfold grK grB at h
  simp only [Bool.and_eq_true, decide_eq_true_eq] at h
  refine ⟨h.1, ?_⟩
  have := h.2.1
  unfold tkK at this
  rw [show (7 : Int) + 36 + k = 43 + k by omega] at this
  exact this
theorem hgB_3 {K : Int → Int} {k : Int} : hgB (kdK K 7) k = true ↔ (0 ≤ k ∧ k < 36 ∧ K (7 + k) ≠ 0 ∧ K (7 + k) ≠ 4) := by
  unfold hgB kdK
  rw [decide_eq_true_eq]
theorem ngK_V {K : Int → Int} {B B' : Int} (hp : plV K) (hB : B + 1 ≤ B') (hv : scV K 7 B) : scV (ngK K) 7 B' := by
  rw [scV_W] at hv ⊢
  obtain ⟨p0, p1, p2, p3, p4⟩ := hv
  have hm := wh_mul0 hp.1
  have h3 := hp.2.1
  refine ⟨?_, ?_, ?_, ?_, ?_⟩
  · intro k k0 k1
    have q := p0 k k0 k1
    rw [ngK_o (j := 7 + k) (by omega), ngK_t k0 k1, ngK_o (j := 1) (by omega), ngK_o (j := 2) (by omega)]
    by_cases hg : k < K 1 * K 2 ∧ grK K k = true
    · rw [if_pos hg]
      have g := grK_h hg.2
      have g1 := (hgB_3.mp g.1).2.2
      refine ⟨q.1, ?_, ?_, ?_, q.2.2.2.2⟩
      · omega
      · intro e; omega
      · intro e; omega
    · rw [if_neg hg]; exact q
  · intro w w0 w1
    rw [ngK_o (j := 3) (by omega)] at w1
    have q := p1 w w0 w1
    rw [ngK_o (j := 79 + w) (by omega), ngK_o (j := 84 + w) (by omega), ngK_o (j := 1) (by omega), ngK_o (j := 2) (by omega)]
    refine ⟨q.1, ?_, q.2.2.1, by omega⟩
    rw [ngK_o (by omega)]; exact q.2.1
  · rw [ngK_9.1]; omega
  · rw [ngK_9.2]; omega
  · rw [ngK_o (j := 91) (by omega)]; omega
/-- a walk -/
theorem goK_o {K : Int → Int} {w z c j : Int} (w0 : 0 ≤ w) (w1 : w < 5) (h : j < 79 ∨ 89 < j ∨ (79 ≤ j ∧ j < 84 ∧ j ≠ 79 + w) ∨ (84 ≤ j ∧ j < 89 ∧ j ≠ 84 + w)) : goK K w z c j = K j := by
  unfold goK
  rw [fu_n (by omega), fu_n (by omega), fu_n (by omega)]
theorem goK_a {K : Int → Int} {w z c : Int} (w0 : 0 ≤ w) (w1 : w < 5) : goK K w z c (79 + w) = z ∧ goK K w z c (84 + w) = K (84 + w) + c ∧ goK K w z c 89 = K 89 + c := by
  unfold goK
  refine ⟨?_, ?_, ?_⟩
  · rw [fu_n (by omega), fu_n (by omega), fu_s]
  · rw [fu_n (by omega), fu_s]
  · rw [fu_s]
theorem goK_V {K : Int → Int} {B B' w z c : Int} (hp : plV K) (w0 : 0 ≤ w) (w1 : w < 5) (z0 : 0 ≤ z) (z1 : z < K 1 * K 2) (hz : K (7 + z) ≠ 4) (c0 : 0 ≤ c) (hB : B + c ≤ B') (hv : scV K 7 B) : scV (goK K w z c) 7 B' := by
  rw [scV_W] at hv ⊢
  obtain ⟨p0, p1, p2, p3, p4⟩ := hv
  have hm := wh_mul0 hp.1
  have h3 := hp.2.1
  obtain ⟨ga, gb, gc⟩ := goK_a (K := K) (z := z) (c := c) w0 w1
  refine ⟨?_, ?_, ?_, ?_, ?_⟩
  · intro k k0 k1
    rw [goK_o (j := 7 + k) w0 w1 (by omega), goK_o (j := 43 + k) w0 w1 (by omega), goK_o (j := 1) w0 w1 (by omega), goK_o (j := 2) w0 w1 (by omega)]
    exact p0 k k0 k1
  · intro v v0 v1
    rw [goK_o (j := 3) w0 w1 (by omega)] at v1
    have q := p1 v v0 v1
    rw [goK_o (j := 1) w0 w1 (by omega), goK_o (j := 2) w0 w1 (by omega)]
    by_cases e : v = w
    · rw [e, ga, gb, goK_o (j := 7 + z) w0 w1 (by omega)]
      rw [e] at q
      exact ⟨⟨z0, z1⟩, hz, by omega, by omega⟩
    · rw [goK_o (j := 79 + v) w0 w1 (by omega), goK_o (j := 84 + v) w0 w1 (by omega), goK_o (j := 7 + K (79 + v)) w0 w1 (by omega)]
      exact ⟨q.1, q.2.1, q.2.2.1, by omega⟩
  · rw [gc]; omega
  · rw [goK_o (j := 90) w0 w1 (by omega)]; omega
  · rw [goK_o (j := 91) w0 w1 (by omega)]; omega
theorem goK_st {K : Int → Int} {w z c : Int} (w0 : 0 ≤ w) (w1 : w < 5) : stK K (goK K w z c) := fun j hj => goK_o w0 w1 (by omega)
/-- clipping -/
theorem clK_o {K : Int → Int} {z m j : Int} (h : j ≠ 43 + z ∧ j ≠ 91 ∧ j ≠ 7 + z) : clK K z m j = K j := by
  unfold clK
  rw [if_neg (by omega), if_neg (by omega), if_neg (by omega)]
theorem clK_a {K : Int → Int} {z m : Int} (z0 : 0 ≤ z) (z1 : z < 36) : clK K z m (43 + z) = K (43 + z) - m ∧ clK K z m 91 = K 91 + m ∧ clK K z m (7 + z) = if K (43 + z) - m = 0 then 0 else K (7 + z) := by
  unfold clK
  refine ⟨?_, ?_, ?_⟩
  · rw [if_pos rfl]
  · rw [if_neg (by omega), if_pos rfl]
  · rw [if_neg (by omega), if_neg (by omega)]
    by_cases e : K (43 + z) - m = 0
    · rw [if_pos ⟨rfl, e⟩, if_pos e]
    · rw [if_neg (fun t => e t.2), if_neg e]
theorem clK_V {K : Int → Int} {B B' z m : Int} (hp : plV K) (z0 : 0 ≤ z) (z1 : z < K 1 * K 2) (hh : hgB (kdK K 7) z = true) (m0 : 0 ≤ m) (m1 : m ≤ K (43 + z)) (hB : B + m ≤ B') (hv : scV K 7 B) : scV (clK K z m) 7 B' := by
  rw [scV_W] at hv ⊢
  obtain ⟨p0, p1, p2, p3, p4⟩ := hv
  have hm := wh_mul0 hp.1
  have h3 := hp.2.1
  have hg := (hgB_3.mp hh).2.2
  obtain ⟨ga, gb, gc⟩ := clK_a (K := K) (m := m) z0 (by omega : z < 36)
  refine ⟨?_, ?_, ?_, ?_, ?_⟩
  · intro k k0 k1
    have q := p0 k k0 k1
    rw [clK_o (j := 1) (by omega), clK_o (j := 2) (by omega)]
    by_cases e : k = z
    · rw [e] at q ⊢
      rw [ga, gc]
      by_cases e2 : K (43 + z) - m = 0
      · rw [if_pos e2]; omega
      · rw [if_neg e2]
        refine ⟨q.1, by omega, ?_, ?_, q.2.2.2.2⟩
        · intro t; omega
        · intro t; omega
    · rw [clK_o (j := 7 + k) (by omega), clK_o (j := 43 + k) (by omega)]
      exact q
  · intro v v0 v1
    rw [clK_o (j := 3) (by omega)] at v1
    have q := p1 v v0 v1
    rw [clK_o (j := 1) (by omega), clK_o (j := 2) (by omega), clK_o (j := 79 + v) (by omega), clK_o (j := 84 + v) (by omega)]
    refine ⟨q.1, ?_, q.2.2.1, by omega⟩
    by_cases e : K (79 + v) = z
    · rw [e, gc]; split <;> omega
    · rw [clK_o (by omega)]; exact q.2.1
  · rw [clK_o (j := 89) (by omega)]; omega
  · rw [clK_o (j := 90) (by omega)]; omega
  · rw [gb]; omega
theorem clK_st {K : Int → Int} {z m : Int} (z0 : 0 ≤ z) (z1 : z < 36) : stK K (clK K z m) := fun j hj => clK_o (by omega)
/-- planting -/
theorem ptK2_o {K : Int → Int} {z kd j : Int} (h : j ≠ 43 + z ∧ j ≠ 7 + z) : ptK2 K z kd j = K j := by
  unfold ptK2
  rw [fu_n (by omega), fu_n (by omega)]
theorem ptK2_a {K : Int → Int} {z kd : Int} : ptK2 K z kd (43 + z) = 1 ∧ ptK2 K z kd (7 + z) = kd := by
  unfold ptK2
  refine ⟨fu_s, ?_⟩
  rw [fu_n (by omega), fu_s]
theorem ptK2_V {K : Int → Int} {B z kd : Int} (hp : plV K) (z0 : 0 ≤ z) (z1 : z < K 1 * K 2) (k0 : 1 ≤ kd) (k1 : kd ≤ 3) (hv : scV K 7 B) : scV (ptK2 K z kd) 7 B := by
  rw [scV_W] at hv ⊢
  obtain ⟨p0, p1, p2, p3, p4⟩ := hv
  have hm := wh_mul0 hp.1
  have h3 := hp.2.1
  obtain ⟨ga, gb⟩ := ptK2_a (K := K) (z := z) (kd := kd)
  refine ⟨?_, ?_, ?_, ?_, ?_⟩
  · intro k k0 k1
    have q := p0 k k0 k1
    rw [ptK2_o (j := 1) (by omega), ptK2_o (j := 2) (by omega)]
    by_cases e : k = z
    · rw [e] at q ⊢
      rw [ga, gb]
      omega
    · rw [ptK2_o (j := 7 + k) (by omega), ptK2_o (j := 43 + k) (by omega)]
      exact q
  · intro v v0 v1
    rw [ptK2_o (j := 3) (by omega)] at v1
    have q := p1 v v0 v1
    rw [ptK2_o (j := 1) (by omega), ptK2_o (j := 2) (by omega), ptK2_o (j := 79 + v) (by omega), ptK2_o (j := 84 + v) (by omega)]
    refine ⟨q.1, ?_, q.2.2.1, by omega⟩
    by_cases e : K (79 + v) = z
    · rw [e, gb]; omega
    · rw [ptK2_o (by omega)]; exact q.2.1
  · rw [ptK2_o (j := 89) (by omega)]; omega
  · rw [ptK2_o (j := 90) (by omega)]; omega
  · rw [ptK2_o (j := 91) (by omega)]; omega
theorem ptK2_st {K : Int → Int} {z kd : Int} (z0 : 0 ≤ z) (z1 : z < 36) : stK K (ptK2 K z kd) := fun j hj => ptK2_o (by omega)
/-- what a deed that can be done is -/
theorem whyK_0 {K : Int → Int} {v : Int} (h : whyK K v = 0) (h3 : K 3 ≤ 5) : v = -1 ∨ ((0 ≤ v % 100 ∧ v % 100 < K 1 * K 2) ∧ ((0 ≤ v ∧ v < 1000 ∧ 0 ≤ v / 100 ∧ v / 100 < K 3 ∧ dK K (v / 100) (v % 100) < far) ∨ (1000 ≤ v ∧ v < 1100 ∧ hgB (kdK K 7) (v % 100) = true) ∨ (2100 ≤ v ∧ v < 2400 ∧ K (7 + v % 100) = 0 ∧ waK K (v % 100) = 0))) := by
  unfold whyK at h
  by_cases e1 : v = -1
  · exact Or.inl e1
  · rw [if_neg e1] at h
    right
    by_cases e2 : v < 0 ∨ 2400 ≤ v
    · rw [if_pos e2] at h; omega
    · rw [if_neg e2] at h
      by_cases e3 : ¬ v % 100 < K 1 * K 2
      · rw [if_pos e3] at h; omega
      · rw [if_neg e3] at h
        refine ⟨by omega, ?_⟩
        by_cases e4 : v / 100 < K 3
        · rw [if_pos e4] at h
          left
          refine ⟨by omega, by omega, by omega, e4, ?_⟩
          by_cases e5 : dK K (v / 100) (v % 100) < far
          · exact e5
          · rw [if_neg e5] at h; omega
        · rw [if_neg e4] at h
          by_cases e5 : v / 100 = 10
          · rw [if_pos e5] at h
            right; left
            refine ⟨by omega, by omega, ?_⟩
            by_cases e6 : hgB (kdK K 7) (v % 100) = true
            · exact e6
            · rw [if_neg e6] at h; omega
          · rw [if_neg e5] at h
            by_cases e6 : 20 < v / 100
            · rw [if_pos e6] at h
              right; right
              refine ⟨by omega, by omega, ?_⟩
              by_cases e7 : K (7 + v % 100) = 0 ∧ waK K (v % 100) = 0
              · exact e7
              · rw [if_neg e7] at h; omega
            · rw [if_neg e6] at h; omega
theorem doK_V {K : Int → Int} {B B' v : Int} (hv : kV K B) (hB : B + 6516 ≤ B') (hw : whyK K v = 0) : stK K (doK K v) ∧ scV (doK K v) 7 B' := by
  have hp := hv.1
  have hm := wh_mul0 hp.1
  have h3 := hp.2.1
  have hs := hv.2.1
  unfold doK
  rcases whyK_0 hw (by omega) with e | ⟨ez, e | e | e⟩
  · rw [if_pos e]
    exact ⟨ngK_st, ngK_V hp (by omega) hs⟩
  · rw [if_neg (by omega), if_pos (by omega)]
    have q := dK_no4 hv e.2.2.1 e.2.2.2.1 ez.1 ez.2 e.2.2.2.2
    exact ⟨goK_st e.2.2.1 (by omega), goK_V hp e.2.2.1 (by omega) ez.1 ez.2 q.1 q.2.1 (by omega) hs⟩
  · rw [if_neg (by omega), if_neg (by omega), if_pos (by omega)]
    have hs' := scV_W.mp hs
    have q := hs'.1 (v % 100) ez.1 (by omega)
    exact ⟨clK_st ez.1 (by omega), clK_V hp ez.1 ez.2 e.2.2 (by omega) (by omega) (by omega) hs⟩
  · rw [if_neg (by omega), if_neg (by omega), if_neg (by omega)]
    refine ⟨ptK2_st ez.1 (by omega), ?_⟩
    have := ptK2_V (kd := v / 100 % 10) hp ez.1 ez.2 (by omega) (by omega) hs
    rw [scV_W] at this ⊢
    obtain ⟨p0, p1, p2, p3, p4⟩ := this
    exact ⟨p0, fun w w0 w1 => ⟨(p1 w w0 w1).1, (p1 w w0 w1).2.1, (p1 w w0 w1).2.2.1, by have := (p1 w w0 w1).2.2.2; omega⟩, by omega, by omega, by omega⟩
