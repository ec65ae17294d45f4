/-! ===== reading a law: what its steps keep ===== -/
def kO (s : Ps) : Prop := 0 ≤ pK s 5 ∧ (pB s = 0 → pK s 5 ≤ pG s)
def Lo (n δ : Int) (s s' : Ps) : Prop := pO n s' ∧ pD s' = pD s + δ ∧ pK s 5 ≤ pK s' 5 ∧ (∀ j, j ≠ 5 → j < 988 + pK s 5 → pK s' j = pK s j) ∧ (pB s' = 0 → pB s = 0 ∧ pG s ≤ pG s' ∧ pK s' 5 - pK s 5 ≤ pG s' - pG s)
theorem Lo_r {n : Int} {s : Ps} (h : pO n s) : Lo n 0 s s := ⟨h, by omega, Int.le_refl _, fun _ _ _ => rfl, fun e => ⟨e, Int.le_refl _, by omega⟩⟩
theorem Lo_t {n δ ε : Int} {s t u : Ps} (h1 : Lo n δ s t) (h2 : Lo n ε t u) : Lo n (δ + ε) s u := by
  obtain ⟨a1, a2, a3, a4, a5⟩ := h1
  obtain ⟨b1, b2, b3, b4, b5⟩ := h2
  refine ⟨b1, by omega, by omega, fun j j0 j1 => by rw [b4 j j0 (by omega), a4 j j0 j1], fun e => ?_⟩
  have b := b5 e
  have a := a5 b.1
  exact ⟨a.1, by omega, by omega⟩
theorem Lo_t0 {n : Int} {s t u : Ps} (h1 : Lo n 0 s t) (h2 : Lo n 0 t u) : Lo n 0 s u := by
  have := Lo_t h1 h2
  rwa [show (0 : Int) + 0 = 0 from rfl] at this
theorem Lo_k {n δ : Int} {s s' : Ps} (h : Lo n δ s s') (hk : kO s) : kO s' := by
  obtain ⟨a1, a2, a3, a4, a5⟩ := h
  refine ⟨by have := hk.1; omega, fun e => ?_⟩
  have a := a5 e
  have := hk.2 a.1
  omega
theorem Lo_rd {f : Int → Int} {n : Int} {s : Ps} (hf : tpOk f n) (h : pO n s) : Lo n 0 s (rdOn f n s) := by
  have hO := rdOn_O hf h
  have h3 := h.2.2.1
  exact ⟨hO.1, by show pD s = pD s + 0; omega, Int.le_refl _, fun _ _ _ => rfl, fun e => ⟨e, by omega, by show pK s 5 - pK s 5 ≤ _; omega⟩⟩
theorem Lo_rO {f : Int → Int} {n : Int} {s : Ps} (hf : tpOk f n) (h : pO n s) : Lo n 0 s (rdO f n s) := by
  unfold rdO
  split
  · exact Lo_rd hf h
  · exact Lo_r h
theorem Lo_bl {n k : Int} {s : Ps} (h : pO n s) (k0 : 1 ≤ k) (k1 : k ≤ 4) : Lo n 0 s (blm k s) := by
  have hO := blm_O h k0 k1
  refine ⟨hO.1, ?_, ?_, ?_, fun e => absurd e hO.2⟩
  · unfold blm; split <;> (show pD s = pD s + 0; omega)
  · unfold blm; split <;> exact Int.le_refl _
  · intro j _ _; unfold blm; split <;> rfl
theorem Lo_mu {f : Int → Int} {n c : Int} {s : Ps} (hf : tpOk f n) (h : pO n s) : Lo n 0 s (muS f n c s) := by
  unfold muS
  split
  · exact Lo_rO hf h
  · exact Lo_t0 (Lo_bl h (by omega) (by omega)) (Lo_rO hf (blm_O h (by omega) (by omega)).1)
theorem Lo_lk {n lo hi : Int} {s : Ps} (h : pO n s) : Lo n 0 s (lkN lo hi s) := by
  unfold lkN
  split
  · split
    · exact Lo_r h
    · exact Lo_bl h (by omega) (by omega)
  · exact Lo_bl h (by omega) (by omega)
theorem Lo_nm {f : Int → Int} {n lo hi : Int} {s : Ps} (hf : tpOk f n) (h : pO n s) : Lo n 0 s (nmb f n lo hi s).2 := Lo_t0 (Lo_lk h) (Lo_rO hf (lkN_O h))
theorem Lo_cm {f : Int → Int} {n : Int} {s : Ps} (hf : tpOk f n) (h : pO n s) : Lo n 0 s (cmS f n s) := by
  unfold cmS
  split
  · exact Lo_rO hf h
  · exact Lo_t0 (Lo_bl h (by omega) (by omega)) (Lo_rO hf (blm_O h (by omega) (by omega)).1)
theorem Lo_sD {n d : Int} {s : Ps} (h : pO n s) (d0 : 0 ≤ d) (d1 : d ≤ 7) : Lo n (d - pD s) s (stD d s) := ⟨⟨h.1, h.2.1, h.2.2.1, h.2.2.2.1, h.2.2.2.2.1, ⟨d0, d1⟩⟩, by show d = pD s + (d - pD s); omega, Int.le_refl _, fun _ _ _ => rfl, fun e => ⟨e, Int.le_refl _, by show pK s 5 - pK s 5 ≤ pG s - pG s; omega⟩⟩
theorem Lo_gi {f : Int → Int} {n : Int} {s : Ps} (hf : tpOk f n) (h : pO n s) (hd : pD s ≤ 6) : Lo n 1 s (gin f n s) ∧ (pD s = 6 → pB (gin f n s) ≠ 0) := by
  have h6 := h.2.2.2.2.2
  have key : ∀ t : Ps, Lo n 0 s t → Lo n 1 s (rdO f n (stD (pD s + 1) t)) := by
    intro t ht
    have a := Lo_sD (d := pD s + 1) ht.1 (by omega) (by omega)
    have b := Lo_t ht (Lo_t a (Lo_rO hf a.1))
    rwa [show (0 : Int) + (pD s + 1 - pD t + 0) = 1 by have := ht.2.1; omega] at b
  unfold gin
  constructor
  · apply key
    split
    · exact Lo_bl h (by omega) (by omega)
    · exact Lo_r h
  · intro e
    rw [rdO_B, if_pos e]
    exact (blm_O h (k := 4) (by omega) (by omega)).2
theorem Lo_dw {n : Int} {s : Ps} (h : pO n s) (hd : 1 ≤ pD s) : Lo n (-1) s (dwn s) := by
  have h6 := h.2.2.2.2.2
  have := Lo_sD (d := pD s - 1) h (by omega) (by omega)
  rwa [show pD s - 1 - pD s = -1 by omega] at this
/-- a step is laid behind a token and more -/
theorem Lo_ly {f : Int → Int} {n c δ : Int} {s t : Ps} (hs : pO n s) (hlt : pB s = 0 → pG s < pH s) (hkt : kO s) (hb : pB s = 0) (h : Lo n δ (rdOn f n s) t) (hf : tpOk f n) : Lo n δ s (lay c t) := by
  have h1 := rdOn_O hf hs
  have h2 := hlt hb
  have hr := Lo_rd hf hs
  have h3 := Lo_t hr h
  rw [show (0 : Int) + δ = δ by omega] at h3
  obtain ⟨a1, a2, a3, a4, a5⟩ := h3
  obtain ⟨b1, b2, b3, b4, b5⟩ := h
  have hk := hkt.1
  unfold lay
  split
  · rename_i e
    have a := a5 e
    have b := b5 e
    have e5 : pK (stK2 (fu (fu (pK t) (988 + pK t 5) c) 5 (pK t 5 + 1)) t) 5 = pK t 5 + 1 := by show fu (fu (pK t) (988 + pK t 5) c) 5 (pK t 5 + 1) 5 = _; exact fu_s
    have b6 : pK (rdOn f n s) 5 = pK s 5 := rfl
    refine ⟨a1, a2, by rw [e5]; omega, fun j j0 j1 => ?_, fun _ => ⟨a.1, a.2.1, ?_⟩⟩
    · show fu (fu (pK t) (988 + pK t 5) c) 5 (pK t 5 + 1) j = _
      rw [fu_n j0, fu_n (by omega), a4 j j0 j1]
    · rw [e5]
      show pK t 5 + 1 - pK s 5 ≤ pG t - pG s
      omega
  · exact ⟨a1, a2, a3, a4, a5⟩
def opC (n D : Int) (F : Ps → Ps) : Prop := ∀ s, pO n s → kO s → pD s = D → Lo n 0 s (F s)
theorem lpG_Lo {n D : Int} {c : Ps → Bool} {b : Ps → Ps} (hb : ∀ s, pO n s → kO s → pD s = D → c s = true → Lo n 0 s (b s)) : ∀ (m : Nat) (s : Ps), pO n s → kO s → pD s = D → Lo n 0 s (lpG c b m s)
  | 0, s, h, _, _ => Lo_r h
  | m + 1, s, h, hk, hd => by
    simp only [lpG]
    split
    · rename_i hc
      have h1 := hb s h hk hd hc
      exact Lo_t0 h1 (lpG_Lo hb m _ h1.1 (Lo_k h1 hk) (by rw [h1.2.1]; omega))
    · exact Lo_r h
theorem isSg_h {c : Int} {s : Ps} (h : isSg c s = true) : pB s = 0 ∧ pT s = c := of_decide_eq_true h
theorem isWd_h {f : Int → Int} {i : Nat} {s : Ps} (h : isWd f i s = true) : pB s = 0 ∧ pT s = 1 := by
  unfold isWd at h
  rw [Bool.and_eq_true, decide_eq_true_eq] at h
  exact ⟨h.1.1, h.1.2.1⟩
theorem lwd_h {f : Int → Int} {s : Ps} (h : lwd f s ≠ -1) : pB s = 0 ∧ pT s = 1 := by
  unfold lwd at h
  by_cases e1 : isWd f 13 s = true
  · exact isWd_h e1
  · by_cases e2 : isWd f 14 s = true
    · exact isWd_h e2
    · by_cases e3 : isWd f 15 s = true
      · exact isWd_h e3
      · by_cases e4 : isWd f 16 s = true
        · exact isWd_h e4
        · by_cases e5 : isWd f 17 s = true
          · exact isWd_h e5
          · by_cases e6 : isWd f 18 s = true
            · exact isWd_h e6
            · rw [if_neg e1, if_neg e2, if_neg e3, if_neg e4, if_neg e5, if_neg e6] at h
              exact absurd rfl h
theorem Lo_body {f : Int → Int} {n D c : Int} {F : Ps → Ps} (hf : tpOk f n) (hF : opC n D F) {s : Ps} (hs : pO n s) (hk : kO s) (hd : pD s = D) (hb : pB s = 0) (ht : pT s ≠ 0) : Lo n 0 s (lay c (F (rdOn f n s))) :=
  Lo_ly hs (fun e => hs.2.2.2.2.1 e ht) hk hb (hF _ (rdOn_O hf hs).1 (Lo_k (Lo_rd hf hs) hk) hd) hf
theorem Lo_atm {f : Int → Int} {n D : Int} {sub : Ps → Ps} (hf : tpOk f n) (hD : D ≤ 6) (hS : ∀ s, pO n s → kO s → pD s = D + 1 → (D = 6 → pB s ≠ 0) → Lo n 0 s (sub s)) : opC n D (pAtm f n sub) := by
  intro s hs hk hd
  unfold pAtm
  split
  · rename_i hb
    split
    · split
      · rename_i hz
        have h1 := Lo_gi hf hs (by omega)
        have h2 := hS _ h1.1.1 (Lo_k h1.1 hk) (by rw [h1.1.2.1]; omega) (fun e => h1.2 (by omega))
        have h3 := Lo_t (Lo_t h1.1 h2) (Lo_mu (c := 41) hf h2.1)
        have h6 := hs.2.2.2.2.2
        have h4 := Lo_t h3 (Lo_dw h3.1 (by have := h3.2.1; omega))
        rwa [show (1 : Int) + 0 + 0 + -1 = 0 from rfl] at h4
      · unfold nmb
        dsimp only
        have h1 := Lo_lk (lo := 0) (hi := 999) hs
        unfold rdO
        split
        · rename_i e
          have e2 := (h1.2.2.2.2 e).1
          have hlk : lkN 0 999 s = s := by
            unfold lkN at e ⊢
            split
            · rename_i e3
              rw [if_pos e3] at e
              split
              · rfl
              · rename_i e4
                rw [if_neg e4] at e
                exact absurd e (blm_O hs (by omega) (by omega)).2
            · rename_i e3
              rw [if_neg e3] at e
              exact absurd e (blm_O hs (by omega) (by omega)).2
          have ht : pT s ≠ 0 := by
            intro e3
            unfold lkN at e
            rw [if_neg (by omega)] at e
            exact absurd e (blm_O hs (by omega) (by omega)).2
          rw [hlk]
          exact Lo_ly hs (fun e => hs.2.2.2.2.1 e ht) hk hb (Lo_r (rdOn_O hf hs).1) hf
        · rename_i e
          unfold lay
          rw [if_neg e]
          exact h1
    · rename_i hz
      have := lwd_h hz
      exact Lo_ly hs (fun e => hs.2.2.2.2.1 e (by omega)) hk hb (Lo_r (rdOn_O hf hs).1) hf
  · exact Lo_r hs
theorem Lo_trm {f : Int → Int} {n D : Int} {F : Ps → Ps} (hf : tpOk f n) (hF : opC n D F) : opC n D (fun s => lpG (isSg 42) (fun s => lay 12 (F (rdOn f n s))) 901 (F s)) := by
  intro s hs hk hd
  have h1 := hF s hs hk hd
  refine Lo_t0 h1 (lpG_Lo (D := D) (fun t ht hkt hdt hc => ?_) 901 _ h1.1 (Lo_k h1 hk) (by rw [h1.2.1]; omega))
  have hh := isSg_h hc
  exact Lo_body hf hF ht hkt hdt hh.1 (by omega)
theorem Lo_sm {f : Int → Int} {n D : Int} {F : Ps → Ps} (hf : tpOk f n) (hF : opC n D F) : opC n D (fun s => lpG (fun s => isSg 43 s || isSg 45 s) (fun s => lay (if pT s = 43 then 10 else 11) (F (rdOn f n s))) 901 (F s)) := by
  intro s hs hk hd
  have h1 := hF s hs hk hd
  refine Lo_t0 h1 (lpG_Lo (D := D) (fun t ht hkt hdt hc => ?_) 901 _ h1.1 (Lo_k h1 hk) (by rw [h1.2.1]; omega))
  rw [Bool.or_eq_true] at hc
  rcases hc with hc | hc
  · have hh := isSg_h hc
    exact Lo_body hf hF ht hkt hdt hh.1 (by omega)
  · have hh := isSg_h hc
    exact Lo_body hf hF ht hkt hdt hh.1 (by omega)
theorem Lo_bth {f : Int → Int} {n D c : Int} {i : Nat} {F : Ps → Ps} (hf : tpOk f n) (hF : opC n D F) : opC n D (fun s => lpG (isWd f i) (fun s => lay c (F (rdOn f n s))) 901 (F s)) := by
  intro s hs hk hd
  have h1 := hF s hs hk hd
  refine Lo_t0 h1 (lpG_Lo (D := D) (fun t ht hkt hdt hc => ?_) 901 _ h1.1 (Lo_k h1 hk) (by rw [h1.2.1]; omega))
  have hh := isWd_h hc
  exact Lo_body hf hF ht hkt hdt hh.1 (by omega)
theorem cmS_B {f : Int → Int} {n : Int} {s : Ps} (hs : pO n s) (h : pB (cmS f n s) = 0) : cmS f n s = rdOn f n s ∧ pT s ≠ 0 ∧ pB s = 0 := by
  unfold cmS at h ⊢
  rw [rdO_B] at h
  by_cases e : pT s = 61 ∨ pT s = 60 ∨ pT s = 62
  · rw [if_pos e] at h ⊢
    exact ⟨by unfold rdO; rw [if_pos h], by omega, h⟩
  · rw [if_neg e] at h
    exact absurd h (blm_O hs (by omega) (by omega)).2
theorem Lo_unt {f : Int → Int} {n D : Int} {un tr sm : Ps → Ps} (hf : tpOk f n) (hD : D ≤ 6) (hU : ∀ s, pO n s → kO s → pD s = D + 1 → (D = 6 → pB s ≠ 0) → Lo n 0 s (un s)) (hT : ∀ s, pO n s → kO s → pD s = D + 1 → (D = 6 → pB s ≠ 0) → Lo n 0 s (tr s)) (hS : opC n D sm) : opC n D (pUnt f n un tr sm) := by
  intro s hs hk hd
  have h6 := hs.2.2.2.2.2
  unfold pUnt
  split
  · rename_i hb
    split
    · rename_i hw
      have hh := isWd_h hw
      have h1 := Lo_gi hf hs (by omega)
      have h2 := hU _ h1.1.1 (Lo_k h1.1 hk) (by rw [h1.1.2.1]; omega) (fun e => h1.2 (by omega))
      have h3 : Lo n 1 s (lay 18 (un (gin f n s))) := by
        by_cases e : pD s = 6
        · have h4 := Lo_t h1.1 h2
          rw [show (1 : Int) + 0 = 1 from rfl] at h4
          have h5 : pB (un (gin f n s)) ≠ 0 := fun e2 => h1.2 e (h2.2.2.2.2 e2).1
          unfold lay
          rw [if_neg h5]
          exact h4
        · have hg : gin f n s = rdOn f n (stD (pD s + 1) s) := by
            unfold gin rdO
            rw [if_neg e, if_pos (show pB (stD (pD s + 1) s) = 0 from hb)]
          have hsD := Lo_sD (d := pD s + 1) hs (by omega) (by omega)
          rw [hg] at h2 ⊢
          have h4 := Lo_ly (c := 18) hsD.1 (fun e3 => hsD.1.2.2.2.2.1 e3 (by show pT s ≠ 0; omega)) (Lo_k hsD hk) hb h2 hf
          have h5 := Lo_t hsD h4
          rwa [show pD s + 1 - pD s + 0 = 1 by omega] at h5
      have h4 := Lo_t h3 (Lo_dw h3.1 (by have := h3.2.1; omega))
      rwa [show (1 : Int) + -1 = 0 from rfl] at h4
    · split
      · have h1 := Lo_gi hf hs (by omega)
        have h2 := hT _ h1.1.1 (Lo_k h1.1 hk) (by rw [h1.1.2.1]; omega) (fun e => h1.2 (by omega))
        have h3 := Lo_t (Lo_t h1.1 h2) (Lo_mu (c := 93) hf h2.1)
        have h4 := Lo_t h3 (Lo_dw h3.1 (by have := h3.2.1; omega))
        rwa [show (1 : Int) + 0 + 0 + -1 = 0 from rfl] at h4
      · have h1 := hS s hs hk hd
        have h2 := Lo_cm hf h1.1
        have hd1 : pD (sm s) = D := by rw [h1.2.1]; omega
        have h3 := hS _ h2.1 (Lo_k h2 (Lo_k h1 hk)) (by rw [h2.2.1]; omega)
        by_cases e : pB (cmS f n (sm s)) = 0
        · have h4 := cmS_B h1.1 e
          rw [h4.1] at h3 ⊢
          exact Lo_t0 h1 (Lo_ly h1.1 (fun e3 => h1.1.2.2.2.2.1 e3 h4.2.1) (Lo_k h1 hk) h4.2.2 h3 hf)
        · have h5 : pB (sm (cmS f n (sm s))) ≠ 0 := fun e2 => e (h3.2.2.2.2 e2).1
          unfold lay
          rw [if_neg h5]
          exact Lo_t0 h1 (Lo_t0 h2 h3)
  · exact Lo_r hs
