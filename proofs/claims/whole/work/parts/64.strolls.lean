/-! ===== Strolls: where one may be ===== -/
theorem ob_sk : ob 9 155 := (rfl : sh 155 = (2, 9, 0, 0, 0))
theorem ob_sw : ob 10 160 := (rfl : sh 160 = (2, 10, 0, 0, 0))
/-- cells where one may be behind so many quarters (a table up to n) -/
def thL (W H : Int) (c : Int → Int) (z : Int) : Nat → Nat → Int → Bool
  | 0 => fun _ k => decide (k = z)
  | n + 1 => fun s => if s ≤ n then thL W H c z n s else fun k => decide (1 ≤ c k ∧ c k ≤ n + 1) && nbB W H (thL W H c z n (n + 1 - (c k).toNat)) k
def tcL (W H : Int) (c : Int → Int) (z : Int) : Nat → Nat → Int → Bool
  | 0 => fun _ k => decide (k = z)
  | n + 1 => fun s => if s ≤ n then tcL W H c z n s else nbB W H (fun b => decide (1 ≤ c b ∧ c b ≤ n + 1) && tcL W H c z n (n + 1 - (c b).toNat) b)
def th (W H : Int) (c : Int → Int) (z : Int) (s : Nat) : Int → Bool := thL W H c z s s
def tc (W H : Int) (c : Int → Int) (z : Int) (s : Nat) : Int → Bool := tcL W H c z s s
theorem thL_th {W H z : Int} {c : Int → Int} (n : Nat) {s : Nat} (h : s ≤ n) : thL W H c z n s = th W H c z s := by
  induction n with
  | zero => have : s = 0 := by omega
            rw [this]; rfl
  | succ n ih =>
    by_cases hs : s ≤ n
    · simp only [thL]; rw [if_pos hs]; exact ih hs
    · have : s = n + 1 := by omega
      rw [this]; rfl
theorem tcL_tc {W H z : Int} {c : Int → Int} (n : Nat) {s : Nat} (h : s ≤ n) : tcL W H c z n s = tc W H c z s := by
  induction n with
  | zero => have : s = 0 := by omega
            rw [this]; rfl
  | succ n ih =>
    by_cases hs : s ≤ n
    · simp only [tcL]; rw [if_pos hs]; exact ih hs
    · have : s = n + 1 := by omega
      rw [this]; rfl
theorem th_s {W H z : Int} {c : Int → Int} {n : Nat} {k : Int} : th W H c z (n + 1) k = (decide (1 ≤ c k ∧ c k ≤ n + 1) && nbB W H (th W H c z (n + 1 - (c k).toNat)) k) := by
  unfold th
  simp only [thL]
  rw [if_neg (by omega)]
  by_cases hc : 1 ≤ c k ∧ c k ≤ n + 1
  · rw [thL_th n (by omega)]; rfl
  · rw [decide_eq_false hc]; rfl
theorem nbB_ext {W H : Int} {q q' : Int → Bool} (h : ∀ k, q k = q' k) (k : Int) : nbB W H q k = nbB W H q' k := by
  have : q = q' := funext h
  rw [this]
theorem tc_s {W H z : Int} {c : Int → Int} {n : Nat} {k : Int} : tc W H c z (n + 1) k = nbB W H (fun b => decide (1 ≤ c b ∧ c b ≤ n + 1) && tc W H c z (n + 1 - (c b).toNat) b) k := by
  conv => lhs; unfold tc
  simp only [tcL]
  rw [if_neg (by omega)]
  refine nbB_ext (fun b => ?_) k
  by_cases hc : 1 ≤ c b ∧ c b ≤ n + 1
  · rw [tcL_tc n (by omega)]
  · rw [decide_eq_false hc]; rfl
theorem th_in {W H z : Int} {c : Int → Int} (z1 : z < W * H) (s : Nat) (k : Int) (h : th W H c z s k = true) : k < W * H := by
  cases s with
  | zero =>
    have : k = z := of_decide_eq_true h
    omega
  | succ s =>
    rw [th_s, Bool.and_eq_true] at h
    unfold nbB at h
    rw [Bool.and_eq_true] at h
    exact (of_decide_eq_true h.2.1).2
theorem tc_in {W H z : Int} {c : Int → Int} (z1 : z < W * H) (s : Nat) (k : Int) (h : tc W H c z s k = true) : k < W * H := by
  cases s with
  | zero =>
    have : k = z := of_decide_eq_true h
    omega
  | succ s =>
    rw [tc_s] at h
    unfold nbB at h
    rw [Bool.and_eq_true] at h
    exact (of_decide_eq_true h.1).2
/-- the store of walks that took so long -/
def skS (τ : St) (OC TH TC : Int → Int) : St := upA (upA (upA τ 900 155 OC) 901 155 TH) 902 155 TC
theorem sk0 {τ : St} {OC TH TC : Int → Int} : skS τ OC TH TC 900 155 = OC := by unfold skS; simp (disch := omega) only [upA_t, upA_s]
theorem sk1 {τ : St} {OC TH TC : Int → Int} : skS τ OC TH TC 901 155 = TH := by unfold skS; simp (disch := omega) only [upA_t, upA_s]
theorem sk2 {τ : St} {OC TH TC : Int → Int} : skS τ OC TH TC 902 155 = TC := by unfold skS; simp (disch := omega) only [upA_s]
theorem skt {τ : St} {OC TH TC : Int → Int} {t o : Nat} (h0 : t ≠ 900) (h1 : t ≠ 901) (h2 : t ≠ 902) : skS τ OC TH TC t o = τ t o := by unfold skS; rw [upA_t h2, upA_t h1, upA_t h0]
theorem su0 {τ : St} {OC TH TC f : Int → Int} : upA (skS τ OC TH TC) 900 155 f = skS τ f TH TC := by unfold skS; rw [upA_comm (t := 902) (t' := 900) (by omega), upA_comm (t := 901) (t' := 900) (by omega), upA_upA]
theorem su1 {τ : St} {OC TH TC f : Int → Int} : upA (skS τ OC TH TC) 901 155 f = skS τ OC f TC := by unfold skS; rw [upA_comm (t := 902) (t' := 901) (by omega), upA_upA]
theorem su2 {τ : St} {OC TH TC f : Int → Int} : upA (skS τ OC TH TC) 902 155 f = skS τ OC TH f := by unfold skS; rw [upA_upA]
theorem sk_self {τ : St} : skS τ (τ 900 155) (τ 901 155) (τ 902 155) = τ := by unfold skS; rw [upA_self, upA_self, upA_self]
/-- cells of a price -/
def ocB (c : Int → Int) (n q : Int) : Int → Bool := fun k => decide (0 ≤ k ∧ k < n ∧ c k = q)
/-- rows for the first n cells -/
def ocU (c : Int → Int) (n : Int) (OC : Int → Int) : Prop := ∀ q, 0 ≤ q → q ≤ 30 → i64 (OC q) = bs (if 1 ≤ q then ocB c n q else fun _ => false)
theorem oc_step {c : Int → Int} {n : Int} {OC : Int → Int} (h : ocU c n OC) (n0 : 0 ≤ n) (n1 : n < 64) : ocU c (n + 1) (if 1 ≤ c n ∧ c n ≤ 30 then fu OC (c n) (bs (fun k => ocB c n (c n) k || decide (k = n))).toInt else OC) := by
  intro q q0 q1
  have hq := h q q0 q1
  have same : c n ≠ q → bs (if 1 ≤ q then ocB c n q else fun _ => false) = bs (if 1 ≤ q then ocB c (n + 1) q else fun _ => false) := by
    intro hne
    by_cases h1 : 1 ≤ q
    · rw [if_pos h1, if_pos h1]
      apply bs_congr
      intro k k0 k1
      unfold ocB
      by_cases hk : k = n
      · rw [hk, decide_eq_false (by omega), decide_eq_false (by omega)]
      · simp only [show k < n + 1 ↔ k < n by omega]
    · rw [if_neg h1, if_neg h1]
  by_cases hc : 1 ≤ c n ∧ c n ≤ 30
  · rw [if_pos hc]
    by_cases hqc : q = c n
    · rw [hqc, fu_s, i64_toInt, if_pos hc.1]
      apply bs_congr
      intro k k0 k1
      unfold ocB
      by_cases hk : k = n
      · rw [hk, decide_eq_true (rfl : n = n), Bool.or_true, decide_eq_true (by omega)]
      · rw [decide_eq_false hk, Bool.or_false]
        simp only [show k < n + 1 ↔ k < n by omega]
    · rw [fu_n hqc, hq]
      exact same (fun w => hqc w.symm)
  · rw [if_neg hc, hq]
    by_cases hqc : q = c n
    · by_cases h1 : 1 ≤ q
      · omega
      · rw [if_neg h1, if_neg h1]
    · exact same (fun w => hqc w.symm)
/-- what there and thence hold for s behind the prices up to q -/
def thQ (W H : Int) (c : Int → Int) (z : Int) (s : Nat) (q : Int) : Int → Bool := fun k => decide (1 ≤ c k ∧ c k ≤ q ∧ c k ≤ s) && nbB W H (th W H c z (s - (c k).toNat)) k
def tcQ (W H : Int) (c : Int → Int) (z : Int) (s : Nat) (q : Int) : Int → Bool := nbB W H (fun b => decide (1 ≤ c b ∧ c b ≤ q ∧ c b ≤ s) && tc W H c z (s - (c b).toNat) b)
theorem nbE_or {W H : Int} {q q' : Int → Bool} {k d : Int} : (nbE W H q k d || nbE W H q' k d) = nbE W H (fun b => q b || q' b) k d := by
  unfold nbE
  cases decide (nbC W H k d ≠ -1) <;> rfl
theorem nbB_or {W H : Int} {q q' : Int → Bool} {k : Int} : (nbB W H q k || nbB W H q' k) = nbB W H (fun b => q b || q' b) k := by
  unfold nbB
  rw [← nbE_or, ← nbE_or, ← nbE_or, ← nbE_or]
  generalize nbE W H q k 0 = a0; generalize nbE W H q k 1 = a1; generalize nbE W H q k 2 = a2; generalize nbE W H q k 3 = a3
  generalize nbE W H q' k 0 = b0; generalize nbE W H q' k 1 = b1; generalize nbE W H q' k 2 = b2; generalize nbE W H q' k 3 = b3
  cases inB W H k <;> cases a0 <;> cases a1 <;> cases a2 <;> cases a3 <;> cases b0 <;> cases b1 <;> cases b2 <;> cases b3 <;> rfl
theorem thQ_step {W H z : Int} {c : Int → Int} {s : Nat} {q : Nat} (q0 : 1 ≤ q) (q1 : q ≤ s) : bs (thQ W H c z s (q - 1)) ||| bs (fun k => nbB W H (th W H c z (s - q)) k && ocB c (W * H) q k) = bs (thQ W H c z s q) := by
  rw [bs_or]
  apply bs_congr
  intro k k0 k1
  unfold thQ ocB
  by_cases hk : c k = q
  · rw [decide_eq_false (by omega : ¬ (1 ≤ c k ∧ c k ≤ (q : Int) - 1 ∧ c k ≤ s)), Bool.false_and, Bool.false_or, decide_eq_true (by omega : 1 ≤ c k ∧ c k ≤ (q : Int) ∧ c k ≤ s), Bool.true_and, show (c k).toNat = q by omega]
    unfold nbB inB
    by_cases hkn : 0 ≤ k ∧ k < W * H
    · rw [decide_eq_true hkn, decide_eq_true (⟨hkn.1, hkn.2, hk⟩ : 0 ≤ k ∧ k < W * H ∧ c k = q), Bool.and_true]
    · rw [decide_eq_false hkn]; rfl
  · rw [decide_eq_false (fun w => hk w.2.2 : ¬ (0 ≤ k ∧ k < W * H ∧ c k = q)), Bool.and_false, Bool.or_false]
    by_cases hq : 1 ≤ c k ∧ c k ≤ (q : Int) - 1 ∧ c k ≤ s
    · rw [decide_eq_true hq, decide_eq_true (by omega : 1 ≤ c k ∧ c k ≤ (q : Int) ∧ c k ≤ s)]
    · rw [decide_eq_false hq, decide_eq_false (by omega : ¬ (1 ≤ c k ∧ c k ≤ (q : Int) ∧ c k ≤ s))]
theorem tcQ_step {W H z : Int} {c : Int → Int} {s : Nat} {q : Nat} (h : wh2 W H) (q0 : 1 ≤ q) (q1 : q ≤ s) : bs (tcQ W H c z s (q - 1)) ||| bs (nbB W H (fun b => tc W H c z (s - q) b && ocB c (W * H) q b)) = bs (tcQ W H c z s q) := by
  rw [bs_or]
  apply bs_congr
  intro k k0 k1
  unfold tcQ
  rw [nbB_or]
  refine nbB_congr h (fun b b0 b1 => ?_) k
  unfold ocB
  by_cases hk : c b = q
  · rw [decide_eq_false (by omega : ¬ (1 ≤ c b ∧ c b ≤ (q : Int) - 1 ∧ c b ≤ s)), Bool.false_and, Bool.false_or, decide_eq_true (by omega : 1 ≤ c b ∧ c b ≤ (q : Int) ∧ c b ≤ s), Bool.true_and, show (c b).toNat = q by omega, decide_eq_true (⟨b0, b1, hk⟩ : 0 ≤ b ∧ b < W * H ∧ c b = q), Bool.and_true]
  · rw [decide_eq_false (fun w => hk w.2.2 : ¬ (0 ≤ b ∧ b < W * H ∧ c b = q)), Bool.and_false, Bool.or_false]
    by_cases hq : 1 ≤ c b ∧ c b ≤ (q : Int) - 1 ∧ c b ≤ s
    · rw [decide_eq_true hq, decide_eq_true (by omega : 1 ≤ c b ∧ c b ≤ (q : Int) ∧ c b ≤ s)]
    · rw [decide_eq_false hq, decide_eq_false (by omega : ¬ (1 ≤ c b ∧ c b ≤ (q : Int) ∧ c b ≤ s))]
theorem thQ_end {W H z : Int} {c : Int → Int} {s : Nat} (s0 : 1 ≤ s) : bs (thQ W H c z s s) = bs (th W H c z s) := by
  apply bs_congr
  intro k _ _
  obtain ⟨n, rfl⟩ : ∃ n, s = n + 1 := ⟨s - 1, by omega⟩
  rw [th_s]
  unfold thQ
  simp only [show (1 ≤ c k ∧ c k ≤ ((n + 1 : Nat) : Int) ∧ c k ≤ ((n + 1 : Nat) : Int)) ↔ (1 ≤ c k ∧ c k ≤ (n : Int) + 1) by omega]
theorem tcQ_end {W H z : Int} {c : Int → Int} {s : Nat} (s0 : 1 ≤ s) : bs (tcQ W H c z s s) = bs (tc W H c z s) := by
  apply bs_congr
  intro k _ _
  obtain ⟨n, rfl⟩ : ∃ n, s = n + 1 := ⟨s - 1, by omega⟩
  rw [tc_s]
  unfold tcQ
  refine nbB_ext (fun b => ?_) k
  simp only [show (1 ≤ c b ∧ c b ≤ ((n + 1 : Nat) : Int) ∧ c b ≤ ((n + 1 : Nat) : Int)) ↔ (1 ≤ c b ∧ c b ≤ (n : Int) + 1) by omega]
