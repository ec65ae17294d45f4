/-! ===== the state as the reference keeps it, and how the class keeps the same ===== -/
def cdU (v : Int) : Int := if 1000 ≤ v then v - 1000 else if 100 ≤ v then v + 900 else if v = 18 then 1006 else v + 997
/-- the law's codes, the kinds, how thick; from a place on -/
def cdK (K : Int → Int) : Int → Int := fun i => cdU (K (988 + i))
def kdK (K : Int → Int) (o : Int) : Int → Int := fun k => K (o + k)
def tkK (K : Int → Int) (o : Int) : Int → Int := fun k => K (o + 36 + k)
def nK (K : Int → Int) : Nat := (K 1 * K 2).toNat
/-- prices of a walker, costs from where one is -/
def prK (K : Int → Int) (w : Int) : Int → Int := cst (kdK K 7) (tkK K 7) (wiB (K 4) (K 90)) (frB (K 92) w)
def dK (K : Int → Int) (w : Int) : Int → Int := dD (K 1) (K 2) (prK K w) (K (79 + w)) (nK K)
/-- a scene of the class is the state from a place on -/
def tsc (σ : St) (s : Nat) (K : Int → Int) (o : Int) : Prop := (∀ k, 0 ≤ k → k < 36 → σ 700 s k = K (o + k) ∧ σ 701 s k = K (o + 36 + k)) ∧ (∀ w, 0 ≤ w → w < K 3 → σ 702 s w = K (o + 72 + w) ∧ σ 703 s w = K (o + 77 + w)) ∧ σ 704 s 0 = K (o + 82) ∧ σ 705 s 0 = K (o + 83) ∧ σ 706 s 0 = K (o + 84)
def tpl (σ : St) (p : Nat) (K : Int → Int) : Prop := σ 400 p 0 = K 0 ∧ σ 401 p 0 = K 1 ∧ σ 402 p 0 = K 2 ∧ σ 404 p 0 = K 3 ∧ σ 403 p 0 = K 4 ∧ σ 301 (p + 4) 0 = K 5 ∧ σ 405 p 0 = K 92 ∧ (∀ w, 0 ≤ w → w < 5 → σ 406 p w = K (93 + w)) ∧ (∀ w e, 0 ≤ w → w < 5 → 0 ≤ e → e < K (93 + w) → σ 407 p (4 * w + e) = K (98 + 4 * w + e) ∧ σ 408 p (4 * w + e) = K (118 + 4 * w + e)) ∧ geo σ p (K 1) (K 2) ∧ ∀ i, 0 ≤ i → i < K 5 → σ 300 (p + 4) i = cdK K i
def tie (σ : St) (a : Nat) (K : Int → Int) : Prop := tpl σ (a + 1) K ∧ tsc σ (a + 8) K 7 ∧ σ 804 a 0 = K 6 ∧ (0 ≤ σ 803 a 0 ∧ σ 803 a 0 < 10) ∧ ∀ i, 0 ≤ i → i < K 6 → tsc σ (pst a ((σ 803 a 0 - K 6 + i) % 10)) K (138 + 85 * i)
/-- what can be at all -/
def plV (K : Int → Int) : Prop := whOk (K 1) (K 2) ∧ (0 ≤ K 3 ∧ K 3 ≤ 5) ∧ (0 ≤ K 4 ∧ K 4 ≤ 9) ∧ (0 ≤ K 5 ∧ K 5 ≤ 900) ∧ (0 ≤ K 6 ∧ K 6 ≤ 10) ∧ (0 ≤ K 92 ∧ K 92 < 32) ∧ (∀ w, 0 ≤ w → w < 5 → 0 ≤ K (93 + w) ∧ K (93 + w) ≤ 4 ∧ ∀ e, 0 ≤ e → e < K (93 + w) → (0 ≤ K (98 + 4 * w + e) ∧ K (98 + 4 * w + e) < K 1 * K 2) ∧ 0 ≤ K (118 + 4 * w + e) ∧ K (118 + 4 * w + e) ≤ 999) ∧ lawG (cdK K) (K 5).toNat ∧ 0 ≤ K 0 ∧ K 0 ≤ 1000
def scV (K : Int → Int) (o B : Int) : Prop := (∀ k, 0 ≤ k → k < 36 → (0 ≤ K (o + k) ∧ K (o + k) ≤ 4) ∧ (0 ≤ K (o + 36 + k) ∧ K (o + 36 + k) ≤ 60) ∧ (K (o + k) = 0 ∨ K (o + k) = 4 → K (o + 36 + k) = 0) ∧ (K (o + 36 + k) = 0 → K (o + k) = 0 ∨ K (o + k) = 4) ∧ (K 1 * K 2 ≤ k → K (o + k) = 0)) ∧ (∀ w, 0 ≤ w → w < K 3 → (0 ≤ K (o + 72 + w) ∧ K (o + 72 + w) < K 1 * K 2) ∧ K (o + K (o + 72 + w)) ≠ 4 ∧ 0 ≤ K (o + 77 + w) ∧ K (o + 77 + w) ≤ B) ∧ (0 ≤ K (o + 82) ∧ K (o + 82) ≤ B) ∧ (0 ≤ K (o + 83) ∧ K (o + 83) ≤ B) ∧ 0 ≤ K (o + 84) ∧ K (o + 84) ≤ B
def kV (K : Int → Int) (B : Int) : Prop := plV K ∧ scV K 7 B ∧ ∀ i, 0 ≤ i → i < K 6 → scV K (138 + 85 * i) B
theorem scV_k {K : Int → Int} {o B : Int} (h : scV K o B) : kdOk (kdK K o) := fun k k0 k1 => (h.1 k k0 k1).1
theorem scV_t {K : Int → Int} {o B : Int} (h : scV K o B) : tkOk (tkK K o) := fun k k0 k1 => (h.1 k k0 k1).2.1
theorem tsc_k {σ : St} {s : Nat} {K : Int → Int} {o : Int} (h : tsc σ s K o) : agr 36 (σ 700 s) (kdK K o) := fun k k0 k1 => (h.1 k k0 k1).1
theorem tsc_t {σ : St} {s : Nat} {K : Int → Int} {o : Int} (h : tsc σ s K o) : agr 36 (σ 701 s) (tkK K o) := fun k k0 k1 => (h.1 k k0 k1).2
theorem tsc_sc {σ : St} {s : Nat} {K : Int → Int} {o B : Int} (h : tsc σ s K o) (hv : scV K o B) (hB : B < 1000000000) : scK σ s := by
  refine ⟨fun k k0 k1 => ?_, fun k k0 k1 => ?_, ?_, ?_⟩
  · rw [tsc_k h k k0 k1]; exact scV_k hv k k0 k1
  · rw [tsc_t h k k0 k1]; exact scV_t hv k k0 k1
  · rw [h.2.2.2.1]; exact hv.2.2.2.1.1
  · rw [h.2.2.2.1]; have := hv.2.2.2.1.2; omega
theorem nK_c {K : Int → Int} (h : plV K) : ((nK K : Nat) : Int) = K 1 * K 2 := by
  have := wh_mul0 h.1
  unfold nK
  omega
theorem tie_hp {σ : St} {K : Int → Int} {B : Int} (ht : tie σ 2 K) (hv : kV K B) (hB : B < 1000000000) : hpW σ (K 1) (K 2) (nK K) := by
  obtain ⟨hP, hS, hu, hr, hU⟩ := ht
  obtain ⟨vP, vS, vU⟩ := hv
  refine ⟨hP.2.2.2.2.2.2.2.2.2.1, vP.1, nK_c vP, ?_, ?_, ?_, ?_, ?_, ?_, tsc_sc hS vS hB, ?_⟩
  · rw [hP.2.2.2.2.1]; exact vP.2.2.1.1
  · rw [hP.2.2.2.2.1]; exact vP.2.2.1.2
  · rw [hP.2.2.2.1]; exact vP.2.1.1
  · rw [hP.2.2.2.1]; exact vP.2.1.2
  · rw [hP.2.2.2.2.2.2.1]; exact vP.2.2.2.2.2.1.1
  · rw [hP.2.2.2.2.2.2.1]; exact vP.2.2.2.2.2.1.2
  · intro w hw
    rw [hP.2.2.2.1] at hw
    rw [(hS.2.1 w (by omega) hw).1]
    exact (vS.2.1 w (by omega) hw).1
theorem tie_sty {σ : St} {K : Int → Int} {B : Int} (ht : tie σ 2 K) (hv : kV K B) : sty σ 2 := ⟨ht.2.2.2.1.1, ht.2.2.2.1.2, by rw [ht.2.2.1]; exact hv.1.2.2.2.2.1.1, by rw [ht.2.2.1]; exact hv.1.2.2.2.2.1.2⟩
theorem lwR_cd {fc cd cd' : Int → Int} {n : Nat} (h : ∀ i : Nat, i < n → cd i = cd' i) : ∀ i : Nat, i ≤ n → lwR fc cd i = lwR fc cd' i
  | 0, _ => rfl
  | i + 1, hi => by
    simp only [lwR]
    rw [lwR_cd h i (by omega), h i (by omega)]
theorem lawG_cd {cd cd' : Int → Int} {n : Nat} (h : ∀ i : Nat, i < n → cd i = cd' i) (hg : lawG cd n) : lawG cd' n := by
  intro fc hfc
  obtain ⟨h1, h2, h3⟩ := hg fc hfc
  have e := lwR_cd (fc := fc) h
  refine ⟨fun i hi => ?_, ?_, ?_⟩
  · have := h1 i hi
    rw [e i (by omega), h i hi] at this
    exact this
  · rw [← e n (Nat.le_refl n)]; exact h2
  · rw [← e n (Nat.le_refl n)]; exact h3
theorem tie_hpL {σ : St} {K : Int → Int} {B : Int} (ht : tie σ 2 K) (hv : kV K B) : hpL σ (K 5).toNat := by
  obtain ⟨hP, hS, hu, hr, hU⟩ := ht
  obtain ⟨vP, vS, vU⟩ := hv
  have h5 := vP.2.2.2.1
  refine ⟨?_, by omega, ?_⟩
  · have := hP.2.2.2.2.2.1
    show σ 301 7 0 = _
    rw [show σ 301 7 0 = K 5 from this]; omega
  · refine lawG_cd (cd := cdK K) (fun i hi => ?_) vP.2.2.2.2.2.2.2.1
    exact (hP.2.2.2.2.2.2.2.2.2.2 i (by omega) (by omega)).symm
theorem tie_hpE {σ : St} {K : Int → Int} {B : Int} (ht : tie σ 2 K) (hv : kV K B) : hpE σ (K 1) (K 2) := by
  obtain ⟨hP, hS, hu, hr, hU⟩ := ht
  obtain ⟨vP, vS, vU⟩ := hv
  have h3 := vP.2.1
  intro w hw
  rw [show σ 404 3 0 = K 3 from hP.2.2.2.1] at hw
  have e6 : σ 406 3 w = K (93 + w) := hP.2.2.2.2.2.2.2.1 w (by omega) (by omega)
  have v6 := vP.2.2.2.2.2.2.1 w (by omega) (by omega)
  rw [e6]
  refine ⟨v6.1, v6.2.1, fun e he => ?_⟩
  have e7 := hP.2.2.2.2.2.2.2.2.1 w e (by omega) (by omega) (by omega) he
  rw [show σ 407 3 (4 * w + e) = K (98 + 4 * w + e) from e7.1, show σ 408 3 (4 * w + e) = K (118 + 4 * w + e) from e7.2]
  exact v6.2.2 e (by omega) he
theorem grB_cd {W H nt z : Int} {kd tk cd cd' : Int → Int} {n : Nat} (h : ∀ i : Nat, i < n → cd i = cd' i) : grB W H kd tk nt cd n z = grB W H kd tk nt cd' n z := by
  unfold grB
  rw [lwR_cd h n (Nat.le_refl n)]
/-- a hedge grows this night -/
def grK (K : Int → Int) : Int → Bool := grB (K 1) (K 2) (kdK K 7) (tkK K 7) (K 90) (cdK K) (K 5).toNat
/-- a deed's marks: a night, a walk, clipping, planting; what is kept for undoing -/
def ngK (K : Int → Int) : Int → Int := fun j => if 43 ≤ j ∧ j < 79 then (if j - 43 < K 1 * K 2 ∧ grK K (j - 43) = true then K j + 1 else K j) else if j = 90 then K 90 + 1 else if j = 89 then 0 else K j
def goK (K : Int → Int) (w z c : Int) : Int → Int := fu (fu (fu K (79 + w) z) (84 + w) (K (84 + w) + c)) 89 (K 89 + c)
def clK (K : Int → Int) (z m : Int) : Int → Int := fun j => if j = 43 + z then K j - m else if j = 91 then K 91 + m else if j = 7 + z ∧ K (43 + z) - m = 0 then 0 else K j
def ptK2 (K : Int → Int) (z kd : Int) : Int → Int := fu (fu K (7 + z) kd) (43 + z) 1
def kpK (K : Int → Int) : Int → Int := if K 6 = 10 then (fun j => if 138 ≤ j ∧ j < 903 then K (j + 85) else if 903 ≤ j ∧ j < 988 then K (j - 903 + 7) else K j) else (fun j => if 138 + 85 * K 6 ≤ j ∧ j < 138 + 85 * K 6 + 85 then K (j - (138 + 85 * K 6) + 7) else if j = 6 then K 6 + 1 else K j)
/-- nobody stands there; one can go there -/
def waK (K : Int → Int) (z : Int) : Int := wa (fun w => K (79 + w)) z (K 3).toNat
def whyK (K : Int → Int) (v : Int) : Int := if v = -1 then 0 else if v < 0 ∨ 2400 ≤ v then 1 else if ¬ v % 100 < K 1 * K 2 then 1 else if v / 100 < K 3 then (if dK K (v / 100) (v % 100) < far then 0 else 2) else if v / 100 = 10 then (if hgB (kdK K 7) (v % 100) then 0 else 2) else if 20 < v / 100 then (if K (7 + v % 100) = 0 ∧ waK K (v % 100) = 0 then 0 else 2) else 1
def doK (K : Int → Int) (v : Int) : Int → Int := if v = -1 then ngK K else if v < 1000 then goK K (v / 100) (v % 100) (dK K (v / 100) (v % 100)) else if v < 2000 then clK K (v % 100) (min 1 (K (43 + v % 100))) else ptK2 K (v % 100) (v / 100 % 10)
