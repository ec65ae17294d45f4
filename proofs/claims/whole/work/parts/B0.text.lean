/-! ===== the text: tokens and a parser, as the reference goes ===== -/
/-- bad, its place, begin, head, token, value, how deep, what is told -/
abbrev Ps : Type := Int × Int × Int × Int × Int × Int × Int × (Int → Int)
def pB (s : Ps) : Int := s.1
def pP (s : Ps) : Int := s.2.1
def pG (s : Ps) : Int := s.2.2.1
def pH (s : Ps) : Int := s.2.2.2.1
def pT (s : Ps) : Int := s.2.2.2.2.1
def pV (s : Ps) : Int := s.2.2.2.2.2.1
def pD (s : Ps) : Int := s.2.2.2.2.2.2.1
def pK (s : Ps) : Int → Int := s.2.2.2.2.2.2.2
def skp (f : Int → Int) (n : Int) : Nat → Int → Int
  | 0, p => p
  | m + 1, p => if p < n ∧ (f p = 32 ∨ f p = 10) then skp f n m (p + 1) else p
def ero (f : Int → Int) (n a b : Int) : Nat → Int → Int
  | 0, p => p
  | m + 1, p => if p < n ∧ a ≤ f p ∧ f p ≤ b then ero f n a b m (p + 1) else p
def dgv (f : Int → Int) (p : Int) : Nat → Int
  | 0 => 0
  | k + 1 => 10 * dgv f p k + f (p + k) - 48
def sgB (c : Int) : Bool := decide (c = 91 ∨ c = 93 ∨ c = 61 ∨ c = 60 ∨ c = 62 ∨ c = 59 ∨ c = 43 ∨ c = 45 ∨ c = 42 ∨ c = 40 ∨ c = 41)
/-- a token from a place on: where it ends, its sort, a number's value -/
def tok (f : Int → Int) (n b v : Int) : Int × Int × Int :=
  if n ≤ b then (b, 0, v)
  else if 97 ≤ f b ∧ f b ≤ 122 then (ero f n 97 122 900 b, 1, v)
  else if 48 ≤ f b ∧ f b ≤ 57 then (ero f n 48 57 900 b, if ero f n 48 57 900 b - b ≤ 3 then 2 else 3, dgv f b (min 3 (ero f n 48 57 900 b - b)).toNat)
  else (b + 1, if sgB (f b) then f b else 3, v)
def rdOn (f : Int → Int) (n : Int) (s : Ps) : Ps := (pB s, pP s, skp f n 900 (pH s), (tok f n (skp f n 900 (pH s)) (pV s)).1, (tok f n (skp f n 900 (pH s)) (pV s)).2.1, (tok f n (skp f n 900 (pH s)) (pV s)).2.2, pD s, pK s)
/-- on to the next token, if nothing is bad -/
def rdO (f : Int → Int) (n : Int) (s : Ps) : Ps := if pB s = 0 then rdOn f n s else s
def blm (k : Int) (s : Ps) : Ps := if pB s = 0 then (if pT s = 3 then 1 else k, pG s, pG s, pH s, pT s, pV s, pD s, pK s) else s
def wdm (f : Int → Int) (g : Int) (i : Nat) : Nat → Bool
  | 0 => true
  | k + 1 => wdm f g i k && decide (f (g + k) = tb i k)
def isWd (f : Int → Int) (i : Nat) (s : Ps) : Bool := decide (pB s = 0 ∧ pT s = 1 ∧ pH s - pG s = (vmByt i).length) && wdm f (pG s) i (vmByt i).length
def isSg (c : Int) (s : Ps) : Bool := decide (pB s = 0 ∧ pT s = c)
def muS (f : Int → Int) (n c : Int) (s : Ps) : Ps := rdO f n (if pT s = c then s else blm 2 s)
/-- a number is at hand -/
def lkN (lo hi : Int) (s : Ps) : Ps := if pT s = 2 then (if lo ≤ pV s ∧ pV s ≤ hi then s else blm 3 s) else blm 2 s
def nmb (f : Int → Int) (n lo hi : Int) (s : Ps) : Int × Ps := (if pB (lkN lo hi s) = 0 then pV s else lo, rdO f n (lkN lo hi s))
def stK2 (K : Int → Int) (s : Ps) : Ps := (pB s, pP s, pG s, pH s, pT s, pV s, pD s, K)
def stD (d : Int) (s : Ps) : Ps := (pB s, pP s, pG s, pH s, pT s, pV s, d, pK s)
def lay (c : Int) (s : Ps) : Ps := if pB s = 0 then stK2 (fu (fu (pK s) (988 + pK s 5) c) 5 (pK s 5 + 1)) s else s
def gin (f : Int → Int) (n : Int) (s : Ps) : Ps := rdO f n (stD (pD s + 1) (if pD s = 6 then blm 4 s else s))
def dwn (s : Ps) : Ps := stD (pD s - 1) s
def lpG (c : Ps → Bool) (b : Ps → Ps) : Nat → Ps → Ps
  | 0, s => s
  | m + 1, s => if c s = true then lpG c b m (b s) else s
/-- a word of the law, or -1 -/
def lwd (f : Int → Int) (s : Ps) : Int := if isWd f 13 s then 0 else if isWd f 14 s then 1 else if isWd f 15 s then 2 else if isWd f 16 s then 3 else if isWd f 17 s then 4 else if isWd f 18 s then 5 else -1
def pAtm (f : Int → Int) (n : Int) (sub : Ps → Ps) (s : Ps) : Ps := if pB s = 0 then (if lwd f s = -1 then (if isSg 40 s then dwn (muS f n 41 (sub (gin f n s))) else lay (1000 + (nmb f n 0 999 s).1) (nmb f n 0 999 s).2) else lay (100 + lwd f s) (rdOn f n s)) else s
def pTrm (f : Int → Int) (n : Int) (sub : Ps → Ps) (s : Ps) : Ps := lpG (isSg 42) (fun s => lay 12 (pAtm f n sub (rdOn f n s))) 901 (pAtm f n sub s)
def pSm (f : Int → Int) (n : Int) (sub : Ps → Ps) (s : Ps) : Ps := lpG (fun s => isSg 43 s || isSg 45 s) (fun s => lay (if pT s = 43 then 10 else 11) (pTrm f n sub (rdOn f n s))) 901 (pTrm f n sub s)
/-- a comparison's sign -/
def cmS (f : Int → Int) (n : Int) (s : Ps) : Ps := rdO f n (if pT s = 61 ∨ pT s = 60 ∨ pT s = 62 then s else blm 2 s)
def cmC (g : Int) : Int := if g = 61 then 13 else if g = 60 then 14 else 15
def pUnt (f : Int → Int) (n : Int) (un tr sm : Ps → Ps) (s : Ps) : Ps := if pB s = 0 then (if isWd f 12 s then dwn (lay 18 (un (gin f n s))) else if isSg 91 s then dwn (muS f n 93 (tr (gin f n s))) else lay (cmC (pT (sm s))) (sm (cmS f n (sm s)))) else s
def pBth (f : Int → Int) (n : Int) (u : Ps → Ps) (s : Ps) : Ps := lpG (isWd f 19) (fun s => lay 16 (u (rdOn f n s))) 901 (u s)
def pTru (f : Int → Int) (n : Int) (u : Ps → Ps) (s : Ps) : Ps := lpG (isWd f 20) (fun s => lay 17 (pBth f n u (rdOn f n s))) 901 (pBth f n u s)
def smD (f : Int → Int) (n : Int) : Nat → Ps → Ps
  | 0 => pSm f n (fun s => s)
  | m + 1 => pSm f n (smD f n m)
def unD (f : Int → Int) (n : Int) : Nat → Ps → Ps
  | 0 => pUnt f n (fun s => s) (fun s => s) (smD f n 0)
  | m + 1 => pUnt f n (unD f n m) (pTru f n (unD f n m)) (smD f n (m + 1))
/-- lines -/
def celP (f : Int → Int) (n : Int) (s : Ps) : Int × Ps :=
  let x := nmb f n 0 (pK s 1 - 1) s
  let y := nmb f n 0 (pK s 2 - 1) x.2
  (if pB y.2 = 0 then pK s 1 * y.1 + x.1 else 0, y.2)
def kdW (f : Int → Int) (s : Ps) : Int := if isWd f 3 s then 1 else if isWd f 4 s then 2 else if isWd f 5 s then 3 else 0
def hdg (f : Int → Int) (n : Int) (s : Ps) : Ps :=
  let c := celP f n s
  let kd := kdW f c.2
  let t := nmb f n 1 60 (if kd = 0 then blm 2 c.2 else rdOn f n c.2)
  if pB t.2 = 0 then stK2 (fu (fu (pK t.2) (7 + c.1) kd) (43 + c.1) t.1) t.2 else t.2
def wal (f : Int → Int) (n : Int) (s : Ps) : Ps :=
  let s1 := rdO f n (if 0 < pK s 3 then blm 2 s else s)
  if pB s1 = 0 then (let c := celP f n s1; if pB c.2 = 0 then stK2 (fu (fu (pK c.2) (7 + c.1) 4) (43 + c.1) 0) c.2 else c.2) else s1
def wkS (K : Int → Int) (w z a : Int) : Int → Int := fu (fu (fu K (79 + w) z) (84 + w) a) 3 (K 3 + 1)
def wkr (f : Int → Int) (n : Int) (s : Ps) : Ps :=
  let s1 := rdO f n (if pK s 3 = 5 then blm 4 s else s)
  if pB s1 = 0 then (
    let x := nmb f n 0 (pK s 1 - 1) s1
    let s2 := if pB x.2 = 0 ∧ pT x.2 = 2 ∧ pV x.2 < pK s 2 ∧ pK s (7 + pK s 1 * pV x.2 + x.1) = 4 then blm 3 x.2 else x.2
    let y := nmb f n 0 (pK s 2 - 1) s2
    let s3 := if isWd f 8 y.2 then stK2 (fu (pK s) 92 (oo (pK s 92) (sl 1 (pK s 3)))) (rdOn f n y.2) else y.2
    let a := if isWd f 9 s3 then nmb f n 0 999 (rdOn f n s3) else (0, s3)
    if pB a.2 = 0 then stK2 (wkS (pK a.2) (pK s 3) (pK s 1 * y.1 + x.1) a.1) a.2 else a.2) else s1
def erS (K : Int → Int) (w c b : Int) : Int → Int := fu (fu (fu K (98 + 4 * w + K (93 + w)) c) (118 + 4 * w + K (93 + w)) b) (93 + w) (K (93 + w) + 1)
def ern (f : Int → Int) (n : Int) (s : Ps) : Ps :=
  let s1 := if pB s = 0 ∧ pT s = 2 ∧ pV s < pK s 3 ∧ pK s (93 + pV s) = 4 then blm 4 s else s
  let w := nmb f n 0 (pK s 3 - 1) s1
  let c := celP f n w.2
  let b := nmb f n 0 999 c.2
  if pB b.2 = 0 then stK2 (erS (pK b.2) w.1 c.1 b.1) b.2 else b.2
def stpL (f : Int → Int) (n : Int) (s : Ps) : Ps := let s1 := muS f n 59 s; if pB s1 = 0 then stK2 (fu (pK s1) 0 (pK s1 0 + 1)) s1 else s1
def lin (f : Int → Int) (n : Int) (s : Ps) : Ps := stpL f n (
  if isWd f 2 s then hdg f n (rdOn f n s)
  else if isWd f 6 s then wal f n s
  else if isWd f 7 s then wkr f n s
  else if isWd f 10 s then ern f n (rdOn f n s)
  else if isWd f 21 s then (let v := nmb f n 2 9 (rdOn f n s); stK2 (fu (pK v.2) 4 v.1) v.2)
  else if isWd f 11 s then pTru f n (unD f n 6) (stK2 (fu (pK s) 5 0) (rdOn f n s))
  else blm 2 s)
def prk1 (f : Int → Int) (n : Int) (s : Ps) : Ps :=
  let s1 := if isWd f 1 s then rdOn f n s else blm 2 s
  let x := nmb f n 2 6 s1
  let y := nmb f n 2 6 (stK2 (fu (pK x.2) 1 x.1) x.2)
  stpL f n (stK2 (fu (pK y.2) 2 y.1) y.2)
def prk (f : Int → Int) (n : Int) (s : Ps) : Ps := lpG (fun s => decide (pB s = 0 ∧ pT s ≠ 0)) (lin f n) 901 (prk1 f n (rdOn f n s))
/-! what holds of all of them -/
def tpOk (f : Int → Int) (n : Int) : Prop := (∀ z, 0 ≤ z → z < 900 → 0 ≤ f z ∧ f z ≤ 255) ∧ 0 ≤ n ∧ n ≤ 900
def pO (n : Int) (s : Ps) : Prop := (0 ≤ pB s ∧ pB s ≤ 4) ∧ (0 ≤ pT s ∧ pT s ≤ 255) ∧ (0 ≤ pG s ∧ pG s ≤ pH s ∧ pH s ≤ n) ∧ (0 ≤ pV s ∧ pV s ≤ 999) ∧ (pB s = 0 → pT s ≠ 0 → pG s < pH s) ∧ (0 ≤ pD s ∧ pD s ≤ 7)
theorem skp_in {f : Int → Int} {n : Int} : ∀ (m : Nat) (p : Int), p ≤ skp f n m p ∧ (p ≤ n → skp f n m p ≤ n)
  | 0, p => ⟨Int.le_refl _, fun h => h⟩
  | m + 1, p => by
    simp only [skp]
    split
    · have := skp_in (f := f) (n := n) m (p + 1)
      omega
    · omega
theorem ero_in {f : Int → Int} {n a b : Int} : ∀ (m : Nat) (p : Int), p ≤ ero f n a b m p ∧ (p ≤ n → ero f n a b m p ≤ n)
  | 0, p => ⟨Int.le_refl _, fun h => h⟩
  | m + 1, p => by
    simp only [ero]
    split
    · have := ero_in (f := f) (n := n) (a := a) (b := b) m (p + 1)
      omega
    · omega
theorem ero_dg {f : Int → Int} {n a b : Int} : ∀ (m : Nat) (p j : Int), p ≤ j → j < ero f n a b m p → a ≤ f j ∧ f j ≤ b
  | 0, p, j, h0, h1 => by simp only [ero] at h1; omega
  | m + 1, p, j, h0, h1 => by
    simp only [ero] at h1
    split at h1
    · rename_i hc
      by_cases e : j = p
      · rw [e]; exact hc.2
      · exact ero_dg m (p + 1) j (by omega) h1
    · omega
theorem ero_s {f : Int → Int} {n a b p : Int} {m : Nat} : ero f n a b (m + 1) p = if p < n ∧ a ≤ f p ∧ f p ≤ b then ero f n a b m (p + 1) else p := rfl
theorem ero_1 {f : Int → Int} {n a b p : Int} (h : p < n) (h2 : a ≤ f p ∧ f p ≤ b) : p + 1 ≤ ero f n a b 900 p := by
  rw [show (900 : Nat) = 899 + 1 from rfl, ero_s, if_pos ⟨h, h2⟩]
  exact (ero_in 899 (p + 1)).1
theorem dgv_in {f : Int → Int} {p : Int} : ∀ k : Nat, k ≤ 3 → (∀ j : Nat, j < k → 48 ≤ f (p + j) ∧ f (p + j) ≤ 57) → 0 ≤ dgv f p k ∧ dgv f p k < 10 ^ k
  | 0, _, _ => by simp [dgv]
  | k + 1, hk, h => by
    have := dgv_in k (by omega) fun j hj => h j (by omega)
    have h2 := h k (by omega)
    simp only [dgv]
    have e : (10 : Int) ^ (k + 1) = 10 * 10 ^ k := by rw [Int.pow_succ, Int.mul_comm]
    omega
theorem tok_in {f : Int → Int} {n b v : Int} (hf : tpOk f n) (b0 : 0 ≤ b) (b1 : b ≤ n) (v0 : 0 ≤ v) (v1 : v ≤ 999) : (b ≤ (tok f n b v).1 ∧ (tok f n b v).1 ≤ n) ∧ (0 ≤ (tok f n b v).2.1 ∧ (tok f n b v).2.1 ≤ 255) ∧ (0 ≤ (tok f n b v).2.2 ∧ (tok f n b v).2.2 ≤ 999) ∧ ((tok f n b v).2.1 ≠ 0 → b < (tok f n b v).1) := by
  have hn := hf.2
  unfold tok
  by_cases e1 : n ≤ b
  · rw [if_pos e1]; dsimp only; omega
  · rw [if_neg e1]
    have hb := hf.1 b b0 (by omega)
    by_cases e2 : 97 ≤ f b ∧ f b ≤ 122
    · rw [if_pos e2]; dsimp only
      have h1 := ero_1 (n := n) (by omega) e2
      have h2 := (ero_in (f := f) (n := n) (a := 97) (b := 122) 900 b).2 b1
      omega
    · rw [if_neg e2]
      by_cases e3 : 48 ≤ f b ∧ f b ≤ 57
      · rw [if_pos e3]; dsimp only
        have h1 := ero_1 (n := n) (by omega) e3
        have h2 := (ero_in (f := f) (n := n) (a := 48) (b := 57) 900 b).2 b1
        have h3 := dgv_in (f := f) (p := b) (min 3 (ero f n 48 57 900 b - b)).toNat (by omega) (fun j hj => ero_dg (n := n) 900 b (b + j) (by omega) (by omega))
        have h4 : (10 : Int) ^ (min 3 (ero f n 48 57 900 b - b)).toNat ≤ 1000 := by
          have : (min 3 (ero f n 48 57 900 b - b)).toNat = 1 ∨ (min 3 (ero f n 48 57 900 b - b)).toNat = 2 ∨ (min 3 (ero f n 48 57 900 b - b)).toNat = 3 := by omega
          rcases this with e | e | e <;> rw [e] <;> decide
        refine ⟨⟨by omega, by omega⟩, ?_, ⟨by omega, by omega⟩, fun _ => by omega⟩
        split <;> omega
      · rw [if_neg e3]; dsimp only
        refine ⟨⟨by omega, by omega⟩, ?_, ⟨v0, v1⟩, fun _ => by omega⟩
        split <;> omega
theorem rdOn_O {f : Int → Int} {n : Int} {s : Ps} (hf : tpOk f n) (h : pO n s) : pO n (rdOn f n s) ∧ pH s ≤ pG (rdOn f n s) := by
  obtain ⟨h1, h2, h3, h4, h5, h6⟩ := h
  have hs := skp_in (f := f) (n := n) 900 (pH s)
  have ht := tok_in (v := pV s) hf (b := skp f n 900 (pH s)) (by omega) (hs.2 h3.2.2) h4.1 h4.2
  exact ⟨⟨h1, ht.2.1, ⟨by show 0 ≤ skp f n 900 (pH s); omega, ht.1.1, ht.1.2⟩, ht.2.2.1, fun _ => ht.2.2.2, h6⟩, hs.1⟩
theorem rdO_O {f : Int → Int} {n : Int} {s : Ps} (hf : tpOk f n) (h : pO n s) : pO n (rdO f n s) := by
  unfold rdO
  split
  · exact (rdOn_O hf h).1
  · exact h
theorem blm_O {n k : Int} {s : Ps} (h : pO n s) (k0 : 1 ≤ k) (k1 : k ≤ 4) : pO n (blm k s) ∧ pB (blm k s) ≠ 0 := by
  obtain ⟨h1, h2, h3, h4, h5, h6⟩ := h
  unfold blm
  by_cases e : pB s = 0
  · rw [if_pos e]
    have hb : (1 : Int) ≤ (if pT s = 3 then 1 else k) ∧ (if pT s = 3 then 1 else k) ≤ 4 := by split <;> omega
    refine ⟨⟨⟨?_, ?_⟩, h2, h3, h4, fun hz => ?_, h6⟩, ?_⟩
    · show 0 ≤ (if pT s = 3 then 1 else k); omega
    · show (if pT s = 3 then 1 else k) ≤ 4; omega
    · have hz2 : (if pT s = 3 then 1 else k) = 0 := hz
      omega
    · show (if pT s = 3 then 1 else k) ≠ 0; omega
  · rw [if_neg e]
    exact ⟨⟨h1, h2, h3, h4, h5, h6⟩, e⟩
