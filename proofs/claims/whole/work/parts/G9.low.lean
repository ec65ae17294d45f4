/-! ===== two states that agree where a state lies ===== -/
def lo19 (K K' : Int → Int) : Prop := ∀ j, 0 ≤ j → j < 1900 → K' j = K j
theorem cd_19 {K K' : Int → Int} (h : lo19 K K') (h5 : K 5 ≤ 900) (i : Nat) (hi : (i : Int) < K 5) : cdK K' i = cdK K i := by
  unfold cdK
  rw [h _ (by omega) (by omega)]
theorem tpl_19 {σ : St} {p : Nat} {K K' : Int → Int} (h : lo19 K K') (hv : plV K) (ht : tpl σ p K) : tpl σ p K' := by
  obtain ⟨h0, h1, h2, h3, h4, h5, h6, h7, h8, h9, h10⟩ := ht
  have v5 := hv.2.2.2.1
  have ve := hv.2.2.2.2.2.2.1
  refine ⟨?_, ?_, ?_, ?_, ?_, ?_, ?_, ?_, ?_, ?_, ?_⟩
  · rw [h 0 (by omega) (by omega)]; exact h0
  · rw [h 1 (by omega) (by omega)]; exact h1
  · rw [h 2 (by omega) (by omega)]; exact h2
  · rw [h 3 (by omega) (by omega)]; exact h3
  · rw [h 4 (by omega) (by omega)]; exact h4
  · rw [h 5 (by omega) (by omega)]; exact h5
  · rw [h 92 (by omega) (by omega)]; exact h6
  · intro w w0 w1; rw [h _ (by omega) (by omega)]; exact h7 w w0 w1
  · intro w e w0 w1 e0 e1
    rw [h _ (by omega) (by omega)] at e1
    have := (ve w w0 w1).2.1
    rw [h _ (by omega) (by omega), h _ (by omega) (by omega)]
    exact h8 w e w0 w1 e0 e1
  · rw [h 1 (by omega) (by omega), h 2 (by omega) (by omega)]; exact h9
  · intro i i0 i1
    rw [h 5 (by omega) (by omega)] at i1
    have := cd_19 h v5.2 i.toNat (by omega)
    rw [show ((i.toNat : Nat) : Int) = i by omega] at this
    rw [this]
    exact h10 i i0 i1
theorem plV_19 {K K' : Int → Int} (h : lo19 K K') (hv : plV K) : plV K' := by
  obtain ⟨h0, h1, h2, h3, h4, h5, h6, h7, h8⟩ := hv
  have e5 : K' 5 = K 5 := h 5 (by omega) (by omega)
  refine ⟨?_, ?_, ?_, ?_, ?_, ?_, ?_, ?_, ?_⟩
  · rw [h 1 (by omega) (by omega), h 2 (by omega) (by omega)]; exact h0
  · rw [h 3 (by omega) (by omega)]; exact h1
  · rw [h 4 (by omega) (by omega)]; exact h2
  · rw [e5]; exact h3
  · rw [h 6 (by omega) (by omega)]; exact h4
  · rw [h 92 (by omega) (by omega)]; exact h5
  · intro w w0 w1
    have a := h6 w w0 w1
    rw [h (93 + w) (by omega) (by omega)]
    refine ⟨a.1, a.2.1, fun e e0 e1 => ?_⟩
    rw [h (98 + 4 * w + e) (by omega) (by omega), h (118 + 4 * w + e) (by omega) (by omega), h 1 (by omega) (by omega), h 2 (by omega) (by omega)]
    exact a.2.2 e e0 e1
  · rw [e5]; exact lawG_cd (fun i hi => (cd_19 h h3.2 i (by omega)).symm) h7
  · rw [h 0 (by omega) (by omega)]; exact h8
theorem scV_19 {K K' : Int → Int} {o B : Int} (h : lo19 K K') (hp : plV K) (o0 : 0 ≤ o) (o1 : o + 85 ≤ 1900) (hv : scV K o B) : scV K' o B := by
  have hm := wh_mul0 hp.1
  exact scV_mv (h 1 (by omega) (by omega)) (h 2 (by omega) (by omega)) (h 3 (by omega) (by omega)) hp.2.1.2 (by omega) (fun j j0 j1 => h _ (by omega) (by omega)) hv
theorem okK_19 {K K' : Int → Int} {B : Int} (h : lo19 K K') (hv : okK K B) : okK K' B := by
  obtain ⟨⟨hp, hs, hu⟩, hl, hr⟩ := hv
  have e5 : K' 5 = K 5 := h 5 (by omega) (by omega)
  have e6 : K' 6 = K 6 := h 6 (by omega) (by omega)
  have v5 := hp.2.2.2.1
  have v6 := hp.2.2.2.2.1
  refine ⟨⟨plV_19 h hp, scV_19 h hp (by omega) (by omega) hs, fun i i0 i1 => ?_⟩, ?_, ?_⟩
  · rw [e6] at i1
    exact scV_19 h hp (by omega) (by omega) (hu i i0 i1)
  · intro fc hfc he
    rw [e5] at he ⊢
    exact Rn_cg (fun j _ j1 => (cd_19 h v5.2 j (by omega)).symm) (hl fc hfc he)
  · intro i i0 i1
    rw [e5] at i1
    rw [h (988 + i) (by omega) (by omega)]
    exact hr i i0 i1
theorem tie_19 {σ : St} {a : Nat} {K K' : Int → Int} (h : lo19 K K') (hp : plV K) (ht : tie σ a K) : tie σ a K' := by
  obtain ⟨hP, hS, hu, hr, hU⟩ := ht
  have e6 : K' 6 = K 6 := h 6 (by omega) (by omega)
  have e3 : K' 3 = K 3 := h 3 (by omega) (by omega)
  have v6 := hp.2.2.2.2.1
  refine ⟨tpl_19 h hp hP, tsc_mv (fun _ _ _ => rfl) e3 hp.2.1.2 (fun j j0 j1 => h _ (by omega) (by omega)) hS, by rw [e6]; exact hu, hr, fun i i0 i1 => ?_⟩
  rw [e6] at i1 ⊢
  exact tsc_mv (fun _ _ _ => rfl) e3 hp.2.1.2 (fun j j0 j1 => h _ (by omega) (by omega)) (hU i i0 i1)
theorem cp_19 {K K0 : Int → Int} : lo19 K (cp K K0 1900) := fun j j0 j1 => cp_lt j0 j1
/-! the tape's bytes -/
theorem an_255b {v : Int} : 0 ≤ an v 255 ∧ an v 255 ≤ 255 := by
  have e : an v 255 = (i32 v &&& i32 255).toInt := rfl
  have b : (i32 v &&& i32 255).toBitVec = (i32 v).toBitVec &&& 255#32 := rfl
  have n : ((i32 v).toBitVec &&& 255#32).toNat ≤ 255 := by
    rw [BitVec.toNat_and]
    exact Nat.and_le_right
  have t : (i32 v &&& i32 255).toInt = ((i32 v &&& i32 255).toBitVec).toInt := rfl
  rw [e, t, b, BitVec.toInt_eq_toNat_of_lt (by omega)]
  omega
theorem tpI_in {v n : Int} {f : Int → Int} (hf : ∀ z, 0 ≤ z → z < 900 → 0 ≤ f z ∧ f z ≤ 255) : ∀ j : Nat, ∀ z, 0 ≤ z → z < 900 → 0 ≤ tpI v f n j z ∧ tpI v f n j z ≤ 255
  | 0 => hf
  | j + 1 => fun z z0 z1 => by
    show 0 ≤ fu (tpI v f n j) (n + j) (an (us v (24 - 8 * j)) 255) z ∧ fu (tpI v f n j) (n + j) (an (us v (24 - 8 * j)) 255) z ≤ 255
    by_cases e : z = n + j
    · rw [e, fu_s]; exact an_255b
    · rw [fu_n e]; exact tpI_in hf j z z0 z1
theorem fdT_in {a b c e g n : Int} {f : Int → Int} (hf : ∀ z, 0 ≤ z → z < 900 → 0 ≤ f z ∧ f z ≤ 255) : ∀ z, 0 ≤ z → z < 900 → 0 ≤ fdT a b c e g f n z ∧ fdT a b c e g f n z ≤ 255 := tpI_in (tpI_in (tpI_in (tpI_in (tpI_in hf 4) 4) 4) 4) 4
