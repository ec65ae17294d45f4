/-! ===== what holds between two calls ===== -/
theorem tpl_fr2 {σ τ : St} {p : Nat} {K : Int → Int} (hs : ∀ t o, 300 ≤ t → t < 600 → p ≤ o → τ t o = σ t o) (h : tpl σ p K) : tpl τ p K := by
  obtain ⟨h0, h1, h2, h3, h4, h5, h6, h7, h8, h9, h10⟩ := h
  refine ⟨?_, ?_, ?_, ?_, ?_, ?_, ?_, ?_, ?_, ?_, ?_⟩
  · rw [hs _ _ (by omega) (by omega) (by omega)]; exact h0
  · rw [hs _ _ (by omega) (by omega) (by omega)]; exact h1
  · rw [hs _ _ (by omega) (by omega) (by omega)]; exact h2
  · rw [hs _ _ (by omega) (by omega) (by omega)]; exact h3
  · rw [hs _ _ (by omega) (by omega) (by omega)]; exact h4
  · rw [hs _ _ (by omega) (by omega) (by omega)]; exact h5
  · rw [hs _ _ (by omega) (by omega) (by omega)]; exact h6
  · rw [hs _ _ (by omega) (by omega) (by omega)]; exact h7
  · rw [hs _ _ (by omega) (by omega) (by omega), hs _ _ (by omega) (by omega) (by omega)]; exact h8
  · exact geo_t h9 (hs _ _ (by omega) (by omega) (by omega)) (hs _ _ (by omega) (by omega) (by omega)) (hs _ _ (by omega) (by omega) (by omega)) (hs _ _ (by omega) (by omega) (by omega)) (hs _ _ (by omega) (by omega) (by omega)) (hs _ _ (by omega) (by omega) (by omega))
  · rw [hs _ _ (by omega) (by omega) (by omega)]; exact h10
theorem tie_fr2 {σ τ : St} {a : Nat} {K : Int → Int} (h : ∀ t o, ((300 ≤ t ∧ t < 600) ∨ (700 ≤ t ∧ t < 900)) → a ≤ o → τ t o = σ t o) (h3 : K 3 ≤ 5) (ht : tie σ a K) : tie τ a K := by
  obtain ⟨hP, hS, hu, hr, hU⟩ := ht
  have e3 : τ 803 a = σ 803 a := h 803 a (by omega) (by omega)
  refine ⟨tpl_fr2 (fun t o t0 t1 to => h t o (by omega) (by omega)) hP, tsc_mv (fun t t0 t1 => h t _ (by omega) (by omega)) rfl h3 (fun _ _ _ => rfl) hS, ?_, ?_, ?_⟩
  · rw [h 804 a (by omega) (by omega)]; exact hu
  · rw [e3]; exact hr
  · intro i i0 i1
    rw [e3]
    refine tsc_mv (fun t t0 t1 => h t _ (by omega) ?_) rfl h3 (fun _ _ _ => rfl) (hU i i0 i1)
    unfold pst
    omega
def imK (σ : St) (i : Int) : Int → Int := fun j => σ 1202 382 (1900 * i + j)
def okK (K : Int → Int) (B : Int) : Prop := kV K B ∧ lwV K ∧ rwK K
theorem okK_le {K : Int → Int} {B B' : Int} (hB : B ≤ B') (h : okK K B) : okK K B' := ⟨kV_le hB h.1, h.2⟩
def Inv (B : Int) (σ : St) : Prop :=
  (tie σ 2 (σ 1200 382) ∧ okK (σ 1200 382) B) ∧
  (σ 1100 0 = σ 1205 382 ∧ σ 1101 0 0 = σ 1206 382 0 ∧ (0 ≤ σ 1206 382 0 ∧ σ 1206 382 0 ≤ 900) ∧ ∀ z, 0 ≤ z → z < 900 → 0 ≤ σ 1205 382 z ∧ σ 1205 382 z ≤ 255) ∧
  (σ 1102 0 0 = σ 1214 382 0 ∧ σ 1103 0 0 = σ 1215 382 0 ∧ 0 ≤ σ 1211 382 0 ∧ σ 1211 382 0 ≤ 999) ∧
  (hpT σ ∧ σ 1107 0 = σ 1239 382 ∧ σ 1108 0 = σ 1237 382 ∧ σ 1109 0 = σ 1238 382) ∧
  ∀ i, 0 ≤ i → i < 3 → σ 805 (img i) 0 = σ 1203 382 i ∧ (σ 1203 382 i = 0 ∨ (σ 1203 382 i = 1 ∧ tie σ (img i) (imK σ i) ∧ okK (imK σ i) B))
/-- what no deed touches -/
def fI (σ τ : St) : Prop := ∀ t o, ((300 ≤ t ∧ t < 600 ∧ 190 ≤ o) ∨ (700 ≤ t ∧ t < 900 ∧ 190 ≤ o) ∨ (1100 ≤ t ∧ t < 1300 ∧ t ≠ 1200 ∧ t ≠ 1204 ∧ ¬ (1217 ≤ t ∧ t ≤ 1236))) → τ t o = σ t o
theorem fI_t {σ τ ρ : St} (h1 : fI σ τ) (h2 : fI τ ρ) : fI σ ρ := fun t o h => (h2 t o h).trans (h1 t o h)
theorem fI_fM {σ τ : St} (h : fM σ τ) : fI σ τ := fun t o ht => h t o (by omega)
theorem fI_fT {σ τ : St} (h : fT σ τ) : fI σ τ := fun t o ht => h t o (by omega)
theorem fI_o {σ : St} {f : Int → Int} : fI σ (upA σ 1300 405 f) := fun t o ht => upA_t (by omega)
theorem imK_e {σ τ : St} {i : Int} (h : τ 1202 382 = σ 1202 382) : imK τ i = imK σ i := by
  funext j
  unfold imK
  rw [h]
theorem img_in {i : Int} (i0 : 0 ≤ i) (i1 : i < 3) : 190 ≤ img i ∧ img i + 64 ≤ 382 := by
  unfold img
  omega
/-- the images keep -/
theorem im_fr {σ τ : St} {B B' : Int} (hB : B ≤ B') (hf : ∀ t o, ((300 ≤ t ∧ t < 600 ∧ 190 ≤ o) ∨ (700 ≤ t ∧ t < 900 ∧ 190 ≤ o) ∨ t = 1202 ∨ t = 1203) → τ t o = σ t o) (h : ∀ i, 0 ≤ i → i < 3 → σ 805 (img i) 0 = σ 1203 382 i ∧ (σ 1203 382 i = 0 ∨ (σ 1203 382 i = 1 ∧ tie σ (img i) (imK σ i) ∧ okK (imK σ i) B))) : ∀ i, 0 ≤ i → i < 3 → τ 805 (img i) 0 = τ 1203 382 i ∧ (τ 1203 382 i = 0 ∨ (τ 1203 382 i = 1 ∧ tie τ (img i) (imK τ i) ∧ okK (imK τ i) B')) := by
  intro i i0 i1
  have ii := img_in i0 i1
  have a := h i i0 i1
  rw [hf 805 (img i) (by omega), hf 1203 382 (by omega), imK_e (hf 1202 382 (by omega))]
  refine ⟨a.1, ?_⟩
  rcases a.2 with a | ⟨a, b, c⟩
  · exact Or.inl a
  · exact Or.inr ⟨a, tie_fr2 (fun t o ht ho => hf t o (by omega)) c.1.1.2.1.2 b, okK_le hB c⟩
theorem Inv_K {σ τ : St} {B B' : Int} (hI : Inv B σ) (hB : B ≤ B') (hf : fI σ τ) (ht : tie τ 2 (τ 1200 382)) (ho : okK (τ 1200 382) B') : Inv B' τ := by
  obtain ⟨_, ⟨b1, b2, b3, b4⟩, ⟨c1, c2, c3, c4⟩, ⟨d1, d2, d3⟩, e⟩ := hI
  have f : ∀ t o, 1100 ≤ t → t < 1300 → t ≠ 1200 → t ≠ 1204 → ¬ (1217 ≤ t ∧ t ≤ 1236) → τ t o = σ t o := fun t o p0 p1 p2 p3 p4 => hf t o (Or.inr (Or.inr ⟨p0, p1, p2, p3, p4⟩))
  refine ⟨⟨ht, ho⟩, ⟨?_, ?_, ?_, ?_⟩, ⟨?_, ?_, ?_, ?_⟩, ⟨?_, ?_, ?_⟩, ?_⟩
  · rw [f 1100 0 (by omega) (by omega) (by omega) (by omega) (by omega), f 1205 382 (by omega) (by omega) (by omega) (by omega) (by omega)]; exact b1
  · rw [f 1101 0 (by omega) (by omega) (by omega) (by omega) (by omega), f 1206 382 (by omega) (by omega) (by omega) (by omega) (by omega)]; exact b2
  · rw [f 1206 382 (by omega) (by omega) (by omega) (by omega) (by omega)]; exact b3
  · rw [f 1205 382 (by omega) (by omega) (by omega) (by omega) (by omega)]; exact b4
  · rw [f 1102 0 (by omega) (by omega) (by omega) (by omega) (by omega), f 1214 382 (by omega) (by omega) (by omega) (by omega) (by omega)]; exact c1
  · rw [f 1103 0 (by omega) (by omega) (by omega) (by omega) (by omega), f 1215 382 (by omega) (by omega) (by omega) (by omega) (by omega)]; exact c2
  · rw [f 1211 382 (by omega) (by omega) (by omega) (by omega) (by omega)]; exact c3
  · rw [f 1211 382 (by omega) (by omega) (by omega) (by omega) (by omega)]; exact c4
  · intro j j0 j1
    rw [f 1108 0 (by omega) (by omega) (by omega) (by omega) (by omega), f 1109 0 (by omega) (by omega) (by omega) (by omega) (by omega)]
    exact d1 j j0 j1
  · rw [f 1107 0 (by omega) (by omega) (by omega) (by omega) (by omega), f 1239 382 (by omega) (by omega) (by omega) (by omega) (by omega)]; exact d2
  · rw [f 1108 0 (by omega) (by omega) (by omega) (by omega) (by omega), f 1237 382 (by omega) (by omega) (by omega) (by omega) (by omega), f 1109 0 (by omega) (by omega) (by omega) (by omega) (by omega), f 1238 382 (by omega) (by omega) (by omega) (by omega) (by omega)]; exact d3
  · refine im_fr hB (fun t o h => ?_) e
    by_cases h2 : t < 1000
    · exact hf t o (by omega)
    · exact f t o (by omega) (by omega) (by omega) (by omega) (by omega)
/-- a question's frame, the out row aside -/
def sgo (σ τ : St) : Prop := ∀ t o, ((300 ≤ t ∧ t < 600) ∨ (700 ≤ t ∧ t < 900 ∧ o ≠ 67) ∨ (1100 ≤ t ∧ t < 1300)) → τ t o = σ t o
theorem sgo_r {σ : St} : sgo σ σ := fun _ _ _ => rfl
theorem sgo_s {σ τ : St} (h : sg σ τ) : sgo σ τ := fun t o ht => h t o (by omega)
theorem sgo_o {σ τ : St} {f : Int → Int} (h : sgo σ τ) : sgo σ (upA τ 1300 405 f) := fun t o ht => by rw [upA_t (by omega)]; exact h t o ht
theorem Inv_s {σ τ : St} {B : Int} (hI : Inv B σ) (hs : sgo σ τ) : Inv B τ := by
  have e : τ 1200 382 = σ 1200 382 := hs 1200 382 (by omega)
  refine Inv_K hI (Int.le_refl B) (fun t o ht => hs t o (by omega)) ?_ (by rw [e]; exact hI.1.2)
  rw [e]
  have k3 : (σ 1200 382) 3 ≤ 5 := hI.1.2.1.1.2.1.2
  have k6 := hI.1.2.1.1.2.2.2.2.1
  have ht := hI.1.1
  obtain ⟨hP, hS, hu, hr, hU⟩ := ht
  have e3 : τ 803 2 = σ 803 2 := hs 803 2 (by omega)
  refine ⟨tpl_fr (fun t o t0 t1 => hs t o (by omega)) hP, tsc_mv (fun t t0 t1 => hs t _ (by omega)) rfl k3 (fun _ _ _ => rfl) hS, ?_, ?_, ?_⟩
  · rw [hs 804 2 (by omega)]; exact hu
  · rw [e3]; exact hr
  · intro i i0 i1
    rw [e3]
    refine tsc_mv (fun t t0 t1 => hs t _ ?_) rfl k3 (fun _ _ _ => rfl) (hU i i0 i1)
    unfold pst
    omega
theorem tie_fT {σ τ : St} {a : Nat} {K : Int → Int} (h : fT σ τ) (h3 : K 3 ≤ 5) (ht : tie σ a K) : tie τ a K := tie_fr2 (fun t o ht _ => h t o (by omega)) h3 ht
theorem Inv_r {σ τ : St} {B : Int} (hI : Inv B σ) (hf : fT σ τ) (hK : τ 1200 382 = σ 1200 382) : Inv B τ := by
  refine Inv_K hI (Int.le_refl B) (fI_fT hf) ?_ (by rw [hK]; exact hI.1.2)
  rw [hK]
  exact tie_fT hf hI.1.2.1.1.2.1.2 hI.1.1
theorem Inv_le {σ : St} {B B' : Int} (hI : Inv B σ) (hB : B ≤ B') : Inv B' σ := Inv_K hI hB (fun _ _ _ => rfl) hI.1.1 (okK_le hB hI.1.2)
/-- a question asked of the class: its code, its answer in out -/
def qM (σ τ : St) (kk : Int) (c1 c2 : Prop) (V : Int64 → Prop) : Prop := sgo σ τ ∧ ((¬ c1 ∧ kk = 1) ∨ (c1 ∧ ¬ c2 ∧ kk = 2) ∨ (c1 ∧ c2 ∧ kk = 0 ∧ V (i64 (τ 1300 405 0))))
theorem qM_1 {σ : St} {c1 c2 : Prop} {V : Int64 → Prop} (h : ¬ c1) : qM σ σ 1 c1 c2 V := ⟨sgo_r, Or.inl ⟨h, rfl⟩⟩
theorem qM_2 {σ : St} {c1 c2 : Prop} {V : Int64 → Prop} (h1 : c1) (h : ¬ c2) : qM σ σ 2 c1 c2 V := ⟨sgo_r, Or.inr (Or.inl ⟨h1, h, rfl⟩)⟩
theorem qM_0 {σ τ : St} {c1 c2 : Prop} {V : Int64 → Prop} {v : Int64} {f : Int → Int} (h1 : c1) (h : c2) (hs : sg σ τ) (hv : V v) : qM σ (upA τ 1300 405 (fu f 0 v.toInt)) 0 c1 c2 V := ⟨sgo_o (sgo_s hs), Or.inr (Or.inr ⟨h1, h, rfl, by rw [upA_s, fu_s, i64_toInt]; exact hv⟩)⟩
/-- what the reference gives back must be what the class gave -/
def rM (ρ : St) (B kk : Int) (b : Int64) : Prop := Inv (B + 300000) ρ ∧ ρ 1204 382 0 = kk ∧ (kk = 0 → i64 (ρ 1300 405 0) = b)
theorem rM_1 {σ τ ρ : St} {B kk u : Int} {c1 c2 : Prop} {V : Int64 → Prop} {b : Int64} (hI : Inv B σ) (hm : qM σ τ kk c1 c2 V) (hu : (¬ c1 ∧ u = 1) ∨ (c1 ∧ ¬ c2 ∧ u = 2)) (f : fT τ ρ) (hK : ρ 1200 382 = σ 1200 382) (ht : ρ 1204 382 0 = u) : rM ρ B kk b := by
  have k : kk = u := by
    rcases hm.2 with ⟨a, e⟩ | ⟨a, a2, e⟩ | ⟨a, a2, e, _⟩ <;> rcases hu with ⟨x, y⟩ | ⟨x, x2, y⟩
    · rw [e, y]
    · exact absurd x a
    · exact absurd a x
    · rw [e, y]
    · exact absurd a x
    · exact absurd a2 x2
  refine ⟨Inv_le (Inv_r (Inv_s hI hm.1) f (by rw [hK]; exact (hm.1 1200 382 (by omega)).symm)) (by omega), by rw [k]; exact ht, fun e => ?_⟩
  rcases hu with ⟨_, y⟩ | ⟨_, _, y⟩ <;> omega
theorem rM_0 {σ τ ρ : St} {B kk : Int} {c1 c2 : Prop} {V : Int64 → Prop} {b : Int64} (hI : Inv B σ) (hm : qM σ τ kk c1 c2 V) (h1 : c1) (h2 : c2) (hu : ∀ x y, V x → V y → x = y) (hb : V b) (f : fT τ ρ) (hK : ρ 1200 382 = σ 1200 382) (ht : ρ 1204 382 0 = 0) : rM ρ B kk b := by
  rcases hm.2 with ⟨a, _⟩ | ⟨_, a, _⟩ | ⟨_, _, e, v⟩
  · exact absurd h1 a
  · exact absurd h2 a
  · refine ⟨Inv_le (Inv_r (Inv_s hI hm.1) f (by rw [hK]; exact (hm.1 1200 382 (by omega)).symm)) (by omega), by rw [e]; exact ht, fun _ => ?_⟩
    rw [f 1300 405 (by omega)]
    exact hu _ _ v hb
theorem v_eq {c : Int64} : ∀ x y, x = c → y = c → x = y := fun x y a b => a.trans b.symm
