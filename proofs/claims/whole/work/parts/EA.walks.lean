/-! ===== how many walks take just so long: mathematics ===== -/
/-- over the first n sides -/
def sm4 (W H : Int) (f : Int → Nat) (z : Int) : Nat → Nat
  | 0 => 0
  | d + 1 => sm4 W H f z d + if nbC W H z d = -1 then 0 else f (nbC W H z d)
/-- in the reference's order -/
def sr4 (W H : Int) (f : Int → Nat) (z : Int) : Nat → Nat
  | 0 => 0
  | e + 1 => sr4 W H f z e + if bsC W H z e = -1 then 0 else f (bsC W H z e)
def sd4 (W H : Int) (f : Int → Nat) (z d : Int) : Nat := if nbC W H z d = -1 then 0 else f (nbC W H z d)
theorem sr4_4 {W H z : Int} {f : Int → Nat} : sr4 W H f z 4 = sm4 W H f z 4 := by
  have l : sr4 W H f z 4 = 0 + sd4 W H f z 1 + sd4 W H f z 2 + sd4 W H f z 0 + sd4 W H f z 3 := rfl
  have r : sm4 W H f z 4 = 0 + sd4 W H f z 0 + sd4 W H f z 1 + sd4 W H f z 2 + sd4 W H f z 3 := rfl
  rw [l, r]
  omega
theorem sm4_cg {W H z : Int} {f f' : Int → Nat} (h : wh2 W H) (z0 : 0 ≤ z) (z1 : z < W * H) (he : ∀ k, 0 ≤ k → k < W * H → f k = f' k) : ∀ n : Nat, sm4 W H f z n = sm4 W H f' z n
  | 0 => rfl
  | n + 1 => by
    simp only [sm4]
    rw [sm4_cg h z0 z1 he n]
    by_cases hn : nbC W H z n = -1
    · rw [if_pos hn, if_pos hn]
    · have hi := nb_in h z0 z1 hn
      rw [if_neg hn, if_neg hn, he _ hi.1 hi.2.1]
theorem sm4_le {W H z : Int} {f : Int → Nat} {b : Nat} (h : wh2 W H) (z0 : 0 ≤ z) (z1 : z < W * H) (hb : ∀ k, 0 ≤ k → k < W * H → f k ≤ b) : ∀ n : Nat, sm4 W H f z n ≤ n * b
  | 0 => by rw [Nat.zero_mul]; exact Nat.le_refl 0
  | n + 1 => by
    have ih := sm4_le h z0 z1 hb n
    simp only [sm4]
    rw [Nat.succ_mul]
    by_cases hn : nbC W H z n = -1
    · rw [if_pos hn]; omega
    · have hi := nb_in h z0 z1 hn
      have := hb _ hi.1 hi.2.1
      rw [if_neg hn]; omega
theorem sm4_pos {W H z : Int} {f : Int → Nat} : ∀ n : Nat, 0 < sm4 W H f z n ↔ ∃ d : Nat, d < n ∧ nbC W H z d ≠ -1 ∧ 0 < f (nbC W H z d)
  | 0 => ⟨fun h => absurd h (Nat.lt_irrefl 0), fun ⟨d, hd, _⟩ => absurd hd (Nat.not_lt_zero d)⟩
  | n + 1 => by
    have ih := sm4_pos (W := W) (H := H) (z := z) (f := f) n
    simp only [sm4]
    constructor
    · intro h
      by_cases hp : 0 < sm4 W H f z n
      · obtain ⟨d, hd, a, b⟩ := ih.mp hp
        exact ⟨d, by omega, a, b⟩
      · by_cases hn : nbC W H z n = -1
        · rw [if_pos hn] at h; omega
        · rw [if_neg hn] at h
          exact ⟨n, by omega, hn, by omega⟩
    · rintro ⟨d, hd, a, b⟩
      by_cases hdn : d = n
      · subst hdn; rw [if_neg a]; omega
      · have := ih.mpr ⟨d, by omega, a, b⟩
        omega
/-- walks that come to a cell, by just so much; none by av -/
def cmL (W H : Int) (c : Int → Int) (a av : Int) : Nat → Nat → Int → Nat
  | 0 => fun _ k => if k = av then 0 else if k = a then 1 else 0
  | n + 1 => fun s => if s ≤ n then cmL W H c a av n s else fun k => if k = av then 0 else if 1 ≤ c k ∧ c k ≤ n + 1 then sm4 W H (cmL W H c a av n (n + 1 - (c k).toNat)) k 4 else 0
def cm (W H : Int) (c : Int → Int) (a av : Int) (s : Nat) : Int → Nat := cmL W H c a av s s
theorem cmL_cm {W H a av : Int} {c : Int → Int} (n : Nat) {s : Nat} (h : s ≤ n) : cmL W H c a av n s = cm W H c a av s := by
  induction n with
  | zero => have : s = 0 := by omega
            rw [this]; rfl
  | succ n ih =>
    by_cases hs : s ≤ n
    · simp only [cmL]; rw [if_pos hs]; exact ih hs
    · have : s = n + 1 := by omega
      rw [this]; rfl
theorem cm_0 {W H a av : Int} {c : Int → Int} {k : Int} : cm W H c a av 0 k = if k = av then 0 else if k = a then 1 else 0 := rfl
theorem cm_s {W H a av : Int} {c : Int → Int} {n : Nat} {k : Int} : cm W H c a av (n + 1) k = if k = av then 0 else if 1 ≤ c k ∧ c k ≤ n + 1 then sm4 W H (cm W H c a av (n + 1 - (c k).toNat)) k 4 else 0 := by
  conv => lhs; unfold cm
  simp only [cmL]
  rw [if_neg (by omega)]
  by_cases hc : 1 ≤ c k ∧ c k ≤ n + 1
  · rw [if_pos hc, if_pos hc, cmL_cm n (by omega)]
  · rw [if_neg hc, if_neg hc]
/-- walks that go from a cell to the aim -/
def gmL (W H : Int) (c : Int → Int) (z : Int) : Nat → Nat → Int → Nat
  | 0 => fun _ k => if k = z then 1 else 0
  | n + 1 => fun s => if s ≤ n then gmL W H c z n s else fun k => sm4 W H (fun b => if 1 ≤ c b ∧ c b ≤ n + 1 then gmL W H c z n (n + 1 - (c b).toNat) b else 0) k 4
def gm (W H : Int) (c : Int → Int) (z : Int) (s : Nat) : Int → Nat := gmL W H c z s s
theorem gmL_gm {W H z : Int} {c : Int → Int} (n : Nat) {s : Nat} (h : s ≤ n) : gmL W H c z n s = gm W H c z s := by
  induction n with
  | zero => have : s = 0 := by omega
            rw [this]; rfl
  | succ n ih =>
    by_cases hs : s ≤ n
    · simp only [gmL]; rw [if_pos hs]; exact ih hs
    · have : s = n + 1 := by omega
      rw [this]; rfl
theorem gm_0 {W H z : Int} {c : Int → Int} {k : Int} : gm W H c z 0 k = if k = z then 1 else 0 := rfl
theorem gm_s {W H z : Int} {c : Int → Int} {n : Nat} {k : Int} : gm W H c z (n + 1) k = sm4 W H (fun b => if 1 ≤ c b ∧ c b ≤ n + 1 then gm W H c z (n + 1 - (c b).toNat) b else 0) k 4 := by
  conv => lhs; unfold gm
  simp only [gmL]
  rw [if_neg (by omega)]
  congr 1
  funext b
  by_cases hc : 1 ≤ c b ∧ c b ≤ n + 1
  · rw [if_pos hc, if_pos hc, gmL_gm n (by omega)]
  · rw [if_neg hc, if_neg hc]
theorem pw4_le {m n : Nat} (h : m ≤ n) : 4 ^ m ≤ 4 ^ n := Nat.pow_le_pow_right (by omega) h
theorem cm_le {W H a av : Int} {c : Int → Int} (h : wh2 W H) : ∀ (N s : Nat), s ≤ N → ∀ k, 0 ≤ k → k < W * H → cm W H c a av s k ≤ 4 ^ s
  | 0, s, hs, k, k0, k1 => by
    have hs : s = 0 := by omega
    subst hs
    rw [cm_0]
    split
    · exact Nat.zero_le _
    · split <;> decide
  | N + 1, s, hs, k, k0, k1 => by
    cases s with
    | zero => exact cm_le h N 0 (by omega) k k0 k1
    | succ s =>
      rw [cm_s]
      split
      · exact Nat.zero_le _
      · by_cases hc : 1 ≤ c k ∧ c k ≤ s + 1
        · rw [if_pos hc]
          have a := sm4_le (f := cm W H c a av (s + 1 - (c k).toNat)) (b := 4 ^ s) h k0 k1 (fun j j0 j1 => Nat.le_trans (cm_le h N _ (by omega) j j0 j1) (pw4_le (by omega))) 4
          rw [Nat.pow_succ]
          omega
        · rw [if_neg hc]; exact Nat.zero_le _
theorem gm_le {W H z : Int} {c : Int → Int} (h : wh2 W H) : ∀ (N s : Nat), s ≤ N → ∀ k, 0 ≤ k → k < W * H → gm W H c z s k ≤ 4 ^ s
  | 0, s, hs, k, k0, k1 => by
    have hs : s = 0 := by omega
    subst hs
    rw [gm_0]
    split <;> decide
  | N + 1, s, hs, k, k0, k1 => by
    cases s with
    | zero => exact gm_le h N 0 (by omega) k k0 k1
    | succ s =>
      rw [gm_s]
      have a := sm4_le (f := fun b => if 1 ≤ c b ∧ c b ≤ (s : Int) + 1 then gm W H c z (s + 1 - (c b).toNat) b else 0) (b := 4 ^ s) h k0 k1 (fun j j0 j1 => by
        show (if 1 ≤ c j ∧ c j ≤ (s : Int) + 1 then gm W H c z (s + 1 - (c j).toNat) j else 0) ≤ 4 ^ s
        by_cases hc : 1 ≤ c j ∧ c j ≤ (s : Int) + 1
        · rw [if_pos hc]
          exact Nat.le_trans (gm_le h N _ (by omega) j j0 j1) (pw4_le (by omega))
        · rw [if_neg hc]; exact Nat.zero_le _) 4
      rw [Nat.pow_succ]
      omega
theorem cm_30 {W H a av : Int} {c : Int → Int} (h : wh2 W H) {s : Nat} (hs : s ≤ 30) {k : Int} (k0 : 0 ≤ k) (k1 : k < W * H) : ((cm W H c a av s k : Nat) : Int) ≤ 1152921504606846976 := by
  have a := cm_le (c := c) (a := a) (av := av) h s s (Nat.le_refl s) k k0 k1
  have b := pw4_le hs
  have e : (4 : Nat) ^ 30 = 1152921504606846976 := by decide
  omega
theorem gm_30 {W H z : Int} {c : Int → Int} (h : wh2 W H) {s : Nat} (hs : s ≤ 30) {k : Int} (k0 : 0 ≤ k) (k1 : k < W * H) : ((gm W H c z s k : Nat) : Int) ≤ 1152921504606846976 := by
  have a := gm_le (c := c) (z := z) h s s (Nat.le_refl s) k k0 k1
  have b := pw4_le hs
  have e : (4 : Nat) ^ 30 = 1152921504606846976 := by decide
  omega
