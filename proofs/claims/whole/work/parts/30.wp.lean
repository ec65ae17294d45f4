/-! ===== runs as propositions: a run from a place ends, and its end is as asked ===== -/
theorem vr_step {P : Nat → Option vmM} {N d pc pc' : Nat} {y : vmM} {L st L' st' : List Value} {h h' : vmH} {e : vmE} (ht : vmTab y pc = some e) (h1 : e.1 ≠ 21) (h2 : e.1 ≠ 22) (h3 : e.1 ≠ 23) (hs : vmStep e L st h = some (pc', L', st', h')) : vmRun P (N + 1) d y pc L st h = vmRun P N d y pc' L' st' h' := by
  conv => lhs; unfold vmRun
  rw [ht]
  dsimp only
  split
  · rename_i hz; exact absurd hz h1
  · rename_i hz; exact absurd hz h2
  · rename_i hz; exact absurd hz h3
  · rw [hs]
theorem vr_call {P : Nat → Option vmM} {N d pc : Nat} {y y' : vmM} {L st : List Value} {h h1 : vmH} {e : vmE} {o1 : vmO} (ht : vmTab y pc = some e) (he : e.1 = 21) (hP : P e.2.2.2.1 = some y') (ha : vmArgsOk y' e.2.2.1 e.2.2.2.2.1 st h) (hr : vmRun P N d y' 0 (vmEntry y' (st.take e.2.2.2.2.1).reverse) [] h = some (o1, h1)) :
    vmRun P (N + 1) (d + 1) y pc L st h = (match (generalizing := false) o1 with
      | .inl none => vmRun P N (d + 1) y e.2.1 L (st.drop e.2.2.2.2.1) h1
      | .inl (some v) => vmRun P N (d + 1) y e.2.1 L (v :: st.drop e.2.2.2.2.1) h1
      | .inr E => vmAfter y.2.2.2.2.2.2 pc E h1) := by
  conv => lhs; unfold vmRun
  rw [ht]
  dsimp only
  split
  · rw [hP]
    dsimp only
    rw [if_pos (show (st.take e.2.2.2.2.1).length = e.2.2.2.2.1 ∧ vmCat (st.drop e.2.2.2.2.1) ≤ 8 ∧ (e.2.2.1 < 4 → vmRecv y' h (st.take e.2.2.2.2.1).reverse = true) ∧ (vmArgs (st.take e.2.2.2.2.1)).length ≤ y'.2.2.1 from ha), hr]
    rcases o1 with (_ | v) | E <;> rfl
  · rename_i hz; omega
  · rename_i hz; omega
  · rename_i hz _ _; exact absurd he hz
theorem vr_ret {P : Nat → Option vmM} {N d pc : Nat} {y : vmM} {L st : List Value} {h : vmH} {e : vmE} (ht : vmTab y pc = some e) (he : e.1 = 22) : vmRun P (N + 1) d y pc L st h = vmRet y e.2.2.2.2.1 st h := by
  conv => lhs; unfold vmRun
  rw [ht]
  dsimp only
  split
  · rename_i hz; omega
  · rfl
  · rename_i hz; omega
  · rename_i hz _; exact absurd he hz
theorem vr_throw {P : Nat → Option vmM} {N d pc : Nat} {y : vmM} {L st : List Value} {h : vmH} {e : vmE} (ht : vmTab y pc = some e) (he : e.1 = 23) (hc : 8 ≤ d ∧ vmCat st ≤ 8 ∧ y.2.2.2.2.2.2 = []) : vmRun P (N + 1) d y pc L st h = some (.inr e.2.2.2.1, (h.1 + 1, h.2.1 + 6, false, h.2.2.2)) := by
  conv => lhs; unfold vmRun
  rw [ht]
  dsimp only
  split
  · rename_i hz; omega
  · rename_i hz; omega
  · rw [if_pos hc]
  · rename_i hz; exact absurd he hz
theorem vr_up {P : Nat → Option vmM} : ∀ (N d pc : Nat) (y : vmM) (L st : List Value) (h : vmH) (r : vmO × vmH), vmRun P N d y pc L st h = some r → vmRun P (N + 1) d y pc L st h = some r := by
  intro N
  induction N with
  | zero => intro d pc y L st h r hr; cases hr
  | succ N ih =>
    intro d pc y L st h r hr
    obtain ⟨out, h'⟩ := r
    obtain ⟨e, ht, hc⟩ := vmRun_inv hr
    rcases hc with ⟨he, d', y', rfl, hP, ha, o1, h1, hrun, hc⟩ | ⟨he, hr2⟩ | ⟨he, c1, c2, c3, rfl, rfl⟩ | ⟨⟨e1, e2, e3⟩, pc', L', st', h1, hs, hr2⟩
    · rw [vr_call ht he hP ha (ih _ _ _ _ _ _ _ hrun)]
      rcases hc with ⟨rfl, hr2⟩ | ⟨v, rfl, hr2⟩ | ⟨E, rfl, hr2⟩
      · exact ih _ _ _ _ _ _ _ hr2
      · exact ih _ _ _ _ _ _ _ hr2
      · exact hr2
    · rw [vr_ret ht he]; exact hr2
    · rw [vr_throw ht he ⟨c1, c2, c3⟩]
    · rw [vr_step ht e1 e2 e3 hs]; exact ih _ _ _ _ _ _ _ hr2
theorem vr_ge {P : Nat → Option vmM} {N M d pc : Nat} {y : vmM} {L st : List Value} {h : vmH} {r : vmO × vmH} (hr : vmRun P N d y pc L st h = some r) (hle : N ≤ M) : vmRun P M d y pc L st h = some r := by
  induction hle with
  | refl => exact hr
  | step _ ih => exact vr_up _ _ _ _ _ _ _ _ ih
/-- a run ends, with what is asked of its end -/
def Wp (d : Nat) (y : vmM) (pc : Nat) (L st : List Value) (h : vmH) (Q : vmO → vmH → Prop) : Prop := ∃ N o h', vmRun vmP N d y pc L st h = some (o, h') ∧ Q o h'
/-- what is asked behind a call -/
def Ko (d : Nat) (y : vmM) (nx pc : Nat) (L st : List Value) (Q : vmO → vmH → Prop) (o : vmO) (h : vmH) : Prop := match o with
  | .inl none => Wp (d + 1) y nx L st h Q
  | .inl (some v) => Wp (d + 1) y nx L (v :: st) h Q
  | .inr E => ∃ o' h', vmAfter y.2.2.2.2.2.2 pc E h = some (o', h') ∧ Q o' h'
/-- a call of the method with a number -/
def Ca (d : Nat) (k : Int) (b : Nat) (args : List Value) (h : vmH) (Q : vmO → vmH → Prop) : Prop := ∃ y, vmP b = some y ∧ (k < 4 → vmRecv y h args = true) ∧ (vmArgs args).length ≤ y.2.2.1 ∧ Wp d y 0 (vmEntry y args) [] h Q
theorem wp_step {d pc pc' : Nat} {y : vmM} {L st L' st' : List Value} {h h' : vmH} {e : vmE} {Q : vmO → vmH → Prop} (ht : vmTab y pc = some e) (h1 : e.1 ≠ 21) (h2 : e.1 ≠ 22) (h3 : e.1 ≠ 23) (hs : vmStep e L st h = some (pc', L', st', h')) : Wp d y pc L st h Q = Wp d y pc' L' st' h' Q := by
  apply propext
  constructor
  · rintro ⟨N, o, h2', hr, hq⟩
    cases N with
    | zero => cases hr
    | succ N => rw [vr_step ht h1 h2 h3 hs] at hr; exact ⟨N, o, h2', hr, hq⟩
  · rintro ⟨N, o, h2', hr, hq⟩
    exact ⟨N + 1, o, h2', by rw [vr_step ht h1 h2 h3 hs]; exact hr, hq⟩
theorem wp_ret {d pc : Nat} {y : vmM} {L st : List Value} {h : vmH} {e : vmE} {o : vmO} {Q : vmO → vmH → Prop} (ht : vmTab y pc = some e) (he : e.1 = 22) (hr : vmRet y e.2.2.2.2.1 st h = some (o, h)) : Wp d y pc L st h Q = Q o h := by
  apply propext
  constructor
  · rintro ⟨N, o', h', hr', hq⟩
    cases N with
    | zero => cases hr'
    | succ N => rw [vr_ret ht he, hr] at hr'; cases hr'; exact hq
  · intro hq
    exact ⟨1, o, h, by rw [vr_ret ht he]; exact hr, hq⟩
theorem wp_throw {d pc : Nat} {y : vmM} {L st : List Value} {h : vmH} {e : vmE} {Q : vmO → vmH → Prop} (ht : vmTab y pc = some e) (he : e.1 = 23) (hc : 8 ≤ d ∧ vmCat st ≤ 8 ∧ y.2.2.2.2.2.2 = []) : Wp d y pc L st h Q = Q (.inr e.2.2.2.1) (h.1 + 1, h.2.1 + 6, false, h.2.2.2) := by
  apply propext
  constructor
  · rintro ⟨N, o', h', hr', hq⟩
    cases N with
    | zero => cases hr'
    | succ N => rw [vr_throw ht he hc] at hr'; cases hr'; exact hq
  · intro hq
    exact ⟨1, _, _, by rw [vr_throw ht he hc], hq⟩
theorem wp_call {d pc : Nat} {y : vmM} {L st : List Value} {h : vmH} {e : vmE} {Q : vmO → vmH → Prop} (ht : vmTab y pc = some e) (he : e.1 = 21) (hn : (st.take e.2.2.2.2.1).length = e.2.2.2.2.1) (hc : vmCat (st.drop e.2.2.2.2.1) ≤ 8) :
    Wp (d + 1) y pc L st h Q = Ca d e.2.2.1 e.2.2.2.1 (st.take e.2.2.2.2.1).reverse h (Ko d y e.2.1 pc L (st.drop e.2.2.2.2.1) Q) := by
  have hlen : (vmArgs (st.take e.2.2.2.2.1).reverse).length = (vmArgs (st.take e.2.2.2.2.1)).length := by rw [vmArgs_len, vmArgs_len, vmCat_rev]
  apply propext
  constructor
  · rintro ⟨N, o, h', hr, hq⟩
    cases N with
    | zero => cases hr
    | succ N =>
      obtain ⟨e', ht', hcs⟩ := vmRun_inv hr
      rw [ht] at ht'
      cases ht'
      rcases hcs with ⟨-, d', y', hd, hP, ha, o1, h1, hrun, hgo⟩ | ⟨hz, -⟩ | ⟨hz, -⟩ | ⟨⟨hz, -⟩, -⟩
      · cases hd
        refine ⟨y', hP, ha.2.2.1, by rw [hlen]; exact ha.2.2.2, N, o1, h1, hrun, ?_⟩
        rcases hgo with ⟨rfl, hr2⟩ | ⟨v, rfl, hr2⟩ | ⟨E, rfl, hr2⟩
        · exact ⟨N, o, h', hr2, hq⟩
        · exact ⟨N, o, h', hr2, hq⟩
        · exact ⟨o, h', hr2, hq⟩
      · omega
      · omega
      · exact absurd he hz
  · rintro ⟨y', hP, hrec, hln, N1, o1, h1, hrun, hk⟩
    have ha : vmArgsOk y' e.2.2.1 e.2.2.2.2.1 st h := ⟨hn, hc, hrec, by rw [← hlen]; exact hln⟩
    rcases o1 with (_ | v) | E
    · obtain ⟨N2, o, h', hr2, hq⟩ := hk
      refine ⟨max N1 N2 + 1, o, h', ?_, hq⟩
      rw [vr_call ht he hP ha (vr_ge hrun (Nat.le_max_left N1 N2))]
      exact vr_ge hr2 (Nat.le_max_right N1 N2)
    · obtain ⟨N2, o, h', hr2, hq⟩ := hk
      refine ⟨max N1 N2 + 1, o, h', ?_, hq⟩
      rw [vr_call ht he hP ha (vr_ge hrun (Nat.le_max_left N1 N2))]
      exact vr_ge hr2 (Nat.le_max_right N1 N2)
    · obtain ⟨o, h', hr2, hq⟩ := hk
      refine ⟨N1 + 1, o, h', ?_, hq⟩
      rw [vr_call ht he hP ha hrun]
      exact hr2
theorem ca_in {d : Nat} {k : Int} {b : Nat} {y : vmM} {args L : List Value} {h : vmH} {Q : vmO → vmH → Prop} (hP : vmP b = some y) (hr : k < 4 → vmRecv y h args = true) (hl : (vmArgs args).length ≤ y.2.2.1) (hL : vmEntry y args = L) : Ca d k b args h Q = Wp d y 0 L [] h Q := by
  apply propext
  constructor
  · rintro ⟨y', hP', -, -, hw⟩
    rw [hP] at hP'
    cases hP'
    rw [hL] at hw
    exact hw
  · intro hw
    exact ⟨y, hP, hr, hl, by rw [hL]; exact hw⟩
theorem Ko_n {d nx pc : Nat} {y : vmM} {L st : List Value} {Q : vmO → vmH → Prop} {h : vmH} : Ko d y nx pc L st Q (.inl none) h = Wp (d + 1) y nx L st h Q := rfl
theorem Ko_v {d nx pc : Nat} {y : vmM} {L st : List Value} {Q : vmO → vmH → Prop} {h : vmH} {v : Value} : Ko d y nx pc L st Q (.inl (some v)) h = Wp (d + 1) y nx L (v :: st) h Q := rfl
theorem Ko_x {d nx pc : Nat} {y : vmM} {L st : List Value} {Q : vmO → vmH → Prop} {h : vmH} {E : Nat} (hh : y.2.2.2.2.2.2 = []) : Ko d y nx pc L st Q (.inr E) h = Q (.inr E) h := by
  apply propext
  show (∃ o' h', vmAfter y.2.2.2.2.2.2 pc E h = some (o', h') ∧ Q o' h') ↔ _
  rw [hh]
  constructor
  · rintro ⟨o', h', hr, hq⟩
    cases hr
    exact hq
  · intro hq
    exact ⟨_, _, rfl, hq⟩
theorem Ko_c {d nx pc : Nat} {y : vmM} {L st : List Value} {Q : vmO → vmH → Prop} {h : vmH} {E : Nat} {v : Int} {r : Nat × Nat × Nat × Int} {rs : List (Nat × Nat × Nat × Int)} (hh : y.2.2.2.2.2.2 = r :: rs) (hv : vmCatch (r :: rs) pc E = some v) : Ko d y nx pc L st Q (.inr E) h = Q (.inl (some (.int (Int32.ofInt v)))) h := by
  apply propext
  show (∃ o' h', vmAfter y.2.2.2.2.2.2 pc E h = some (o', h') ∧ Q o' h') ↔ _
  rw [hh]
  unfold vmAfter
  dsimp only
  rw [hv]
  constructor
  · rintro ⟨o', h', hr, hq⟩
    cases hr
    exact hq
  · intro hq
    exact ⟨_, _, rfl, hq⟩
