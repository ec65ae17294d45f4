/-! ===== the heap only grows; contracts; a call's end ===== -/
def vmLe (h h' : vmH) : Prop := h.1 ≤ h'.1 ∧ h.2.1 ≤ h'.2.1 ∧ (h'.2.2.1 = true → h.2.2.1 = true)
theorem vmLe.rf (h : vmH) : vmLe h h := ⟨Nat.le_refl _, Nat.le_refl _, id⟩
theorem vmLe.tr {a b c : vmH} (h1 : vmLe a b) (h2 : vmLe b c) : vmLe a c := ⟨Nat.le_trans h1.1 h2.1, Nat.le_trans h1.2.1 h2.2.1, fun z => h1.2.2 (h2.2.2 z)⟩
theorem vmLe.st (h : vmH) (k : Nat) (c : vmC) : vmLe h (vmSet h k c) := ⟨Nat.le_refl _, Nat.le_refl _, id⟩
theorem vmLe.ad (h : vmH) (n : Nat) (c : vmC) : vmLe h (vmAdd h n c) := ⟨Nat.le_succ _, Nat.le_add_right _ _, id⟩
theorem vmStep_le {e : vmE} {L st L' st' : List Value} {h h' : vmH} {pc' : Nat} (hs : vmStep e L st h = some (pc', L', st', h')) : vmLe h h' := by
  obtain ⟨op, nx, a, b, c, sw⟩ := e
  match op, hs with
  | 0, hs => cases vi0 hs; exact vmLe.rf _
  | 1, hs => cases vi1 hs; exact vmLe.rf _
  | 2, hs => obtain ⟨v, -, -, hr⟩ := vi2 hs; cases hr; exact vmLe.rf _
  | 3, hs => obtain ⟨v, st0, -, -, hr⟩ := vi3 hs; rcases hr with ⟨-, -, hr⟩ | ⟨-, -, hr⟩ <;> cases hr <;> exact vmLe.rf _
  | 4, hs => obtain ⟨v, -, hr⟩ := vi4 hs; cases hr; exact vmLe.rf _
  | 5, hs => obtain ⟨_, _, _, _, -, -, hr⟩ := vi5 hs; cases hr; exact vmLe.rf _
  | 6, hs => obtain ⟨_, _, _, _, -, -, hr⟩ := vi6 hs; cases hr; exact vmLe.rf _
  | 7, hs => obtain ⟨_, _, _, _, -, -, hr⟩ := vi7 hs; cases hr; exact vmLe.rf _
  | 8, hs => obtain ⟨_, _, _, -, -, hr⟩ := vi8 hs; cases hr; exact vmLe.rf _
  | 9, hs => obtain ⟨_, _, _, -, hr⟩ := vi9 hs; cases hr; exact vmLe.rf _
  | 10, hs => obtain ⟨_, -, hr⟩ := vi10 hs; cases hr; exact vmLe.rf _
  | 11, hs => cases vi11 hs; exact vmLe.rf _
  | 12, hs => obtain ⟨_, _, -, hr⟩ := vi12 hs; cases hr; exact vmLe.rf _
  | 13, hs => obtain ⟨_, _, _, -, hr⟩ := vi13 hs; cases hr; exact vmLe.rf _
  | 14, hs => obtain ⟨_, _, -, hr⟩ := vi14 hs; cases hr; exact vmLe.rf _
  | 15, hs => obtain ⟨_, _, _, _, -, -, -, hr⟩ := vi15 hs; cases hr; exact vmLe.rf _
  | 16, hs => obtain ⟨_, _, _, _, -, -, -, -, -, hr⟩ := vi16 hs; cases hr; exact vmLe.st _ _ _
  | 17, hs => obtain ⟨_, _, _, _, -, -, -, hr⟩ := vi17 hs; cases hr; exact vmLe.rf _
  | 18, hs => obtain ⟨_, _, _, _, _, -, -, -, hr⟩ := vi18 hs; cases hr; exact vmLe.rf _
  | 19, hs => obtain ⟨_, _, _, _, _, _, -, -, -, -, hr⟩ := vi19 hs; cases hr; exact vmLe.st _ _ _
  | 20, hs => obtain ⟨_, _, _, _, _, _, _, -, -, -, -, -, -, hr⟩ := vi20 hs; cases hr; exact vmLe.st _ _ _
  | 21, hs => cases hs
  | 22, hs => cases hs
  | 23, hs => cases hs
  | 24, hs => obtain ⟨_, _, _, -, -, -, -, -, -, hr⟩ := vi24 hs; cases hr; exact vmLe.ad _ _ _
  | 25, hs => obtain ⟨-, -, hr⟩ := vi25 hs; cases hr; exact vmLe.ad _ _ _
  | 26, hs => cases vi26 hs; exact vmLe.rf _
  | 27, hs => obtain ⟨_, _, _, _, _, _, _, _, _, -, -, -, -, -, -, -, hr⟩ := vi27 hs; cases hr; exact vmLe.st _ _ _
  | 28, hs => obtain ⟨_, _, -, -, -, hr⟩ := vi28 hs; cases hr; exact vmLe.rf _
  | 29, hs => rcases vi29 hs with ⟨_, _, _, _, -, -, -, hr⟩ | ⟨_, _, _, _, -, -, -, hr⟩ <;> cases hr <;> exact vmLe.rf _
  | n + 30, hs => cases hs
theorem vmRet_inv {y : vmM} {c : Nat} {st : List Value} {h h' : vmH} {out : vmO} (hr : vmRet y c st h = some (out, h')) : h' = h ∧ ((c = 0 ∧ st = [] ∧ y.2.2.2.1 = none ∧ out = .inl none) ∨ (∃ v ty, c = 1 ∧ st = [.int v] ∧ y.2.2.2.1 = some ty ∧ narrow ty (.int v) = .int v ∧ out = .inl (some (.int v))) ∨ (∃ v, c = 2 ∧ st = [.long v] ∧ y.2.2.2.1 = some .long ∧ out = .inl (some (.long v)))) := by
  unfold vmRet at hr
  split at hr
  · split at hr
    · rename_i h1; cases hr; exact ⟨rfl, Or.inl ⟨rfl, rfl, h1, rfl⟩⟩
    · cases hr
  · split at hr
    · rename_i ty h1
      split at hr
      · rename_i h2; cases hr; exact ⟨rfl, Or.inr (Or.inl ⟨_, ty, rfl, rfl, h1, h2, rfl⟩)⟩
      · cases hr
    · cases hr
  · split at hr
    · rename_i h1; cases hr; exact ⟨rfl, Or.inr (Or.inr ⟨_, rfl, rfl, h1, rfl⟩)⟩
    · cases hr
  · cases hr
theorem vmAfter_inv {hs : List (Nat × Nat × Nat × Int)} {pc E : Nat} {h h' : vmH} {out : vmO} (hr : vmAfter hs pc E h = some (out, h')) : h' = h ∧ ((hs = [] ∧ out = .inr E) ∨ (∃ v, vmCatch hs pc E = some v ∧ out = .inl (some (.int (Int32.ofInt v))))) := by
  unfold vmAfter at hr
  split at hr
  · cases hr; exact ⟨rfl, Or.inl ⟨rfl, rfl⟩⟩
  · split at hr
    · rename_i v hv; cases hr; exact ⟨rfl, Or.inr ⟨v, hv, rfl⟩⟩
    · cases hr
/-- a call, unfolded -/
def vmArgsOk (y' : vmM) (k : Int) (n : Nat) (st : List Value) (h : vmH) : Prop := (st.take n).length = n ∧ vmCat (st.drop n) ≤ 8 ∧ (k < 4 → vmRecv y' h (st.take n).reverse = true) ∧ (vmArgs (st.take n)).length ≤ y'.2.2.1
theorem vmRun_inv {P : Nat → Option vmM} {N d pc : Nat} {y : vmM} {L st : List Value} {h h' : vmH} {out : vmO} (hr : vmRun P (N + 1) d y pc L st h = some (out, h')) : ∃ e, vmTab y pc = some e ∧
    ((e.1 = 21 ∧ ∃ d' y', d = d' + 1 ∧ P e.2.2.2.1 = some y' ∧ vmArgsOk y' e.2.2.1 e.2.2.2.2.1 st h ∧ ∃ o1 h1, vmRun P N d' y' 0 (vmEntry y' (st.take e.2.2.2.2.1).reverse) [] h = some (o1, h1) ∧
      ((o1 = .inl none ∧ vmRun P N d y e.2.1 L (st.drop e.2.2.2.2.1) h1 = some (out, h')) ∨ (∃ v, o1 = .inl (some v) ∧ vmRun P N d y e.2.1 L (v :: st.drop e.2.2.2.2.1) h1 = some (out, h')) ∨ (∃ E, o1 = .inr E ∧ vmAfter y.2.2.2.2.2.2 pc E h1 = some (out, h')))) ∨
     (e.1 = 22 ∧ vmRet y e.2.2.2.2.1 st h = some (out, h')) ∨
     (e.1 = 23 ∧ 8 ≤ d ∧ vmCat st ≤ 8 ∧ y.2.2.2.2.2.2 = [] ∧ out = .inr e.2.2.2.1 ∧ h' = (h.1 + 1, h.2.1 + 6, false, h.2.2.2)) ∨
     ((e.1 ≠ 21 ∧ e.1 ≠ 22 ∧ e.1 ≠ 23) ∧ ∃ pc' L' st' h1, vmStep e L st h = some (pc', L', st', h1) ∧ vmRun P N d y pc' L' st' h1 = some (out, h'))) := by
  unfold vmRun at hr
  split at hr
  · cases hr
  · rename_i e he
    refine ⟨e, he, ?_⟩
    split at hr
    · rename_i hop
      refine Or.inl ⟨hop, ?_⟩
      split at hr
      · cases hr
      · rename_i d'
        split at hr
        · cases hr
        · rename_i y' hy'
          split at hr
          · rename_i hc
            refine ⟨d', y', rfl, hy', hc, ?_⟩
            split at hr
            · cases hr
            · rename_i h1 hrun; exact ⟨_, h1, hrun, Or.inl ⟨rfl, hr⟩⟩
            · rename_i v h1 hrun; exact ⟨_, h1, hrun, Or.inr (Or.inl ⟨v, rfl, hr⟩)⟩
            · rename_i E h1 hrun; exact ⟨_, h1, hrun, Or.inr (Or.inr ⟨E, rfl, hr⟩)⟩
          · cases hr
    · rename_i hop; exact Or.inr (Or.inl ⟨hop, hr⟩)
    · rename_i hop
      split at hr
      · rename_i hc
        cases hr
        exact Or.inr (Or.inr (Or.inl ⟨hop, hc.1, hc.2.1, hc.2.2, rfl, rfl⟩))
      · cases hr
    · rename_i h21 h22 h23
      split at hr
      · cases hr
      · rename_i pc' L' st' h1 hs
        exact Or.inr (Or.inr (Or.inr ⟨⟨h21, h22, h23⟩, pc', L', st', h1, hs, hr⟩))
theorem vmRun_le {P : Nat → Option vmM} : ∀ (N d pc : Nat) (y : vmM) (L st : List Value) (h h' : vmH) (out : vmO), vmRun P N d y pc L st h = some (out, h') → vmLe h h' := by
  intro N
  induction N with
  | zero => intro d pc y L st h h' out hr; cases hr
  | succ N ih =>
    intro d pc y L st h h' out hr
    obtain ⟨e, -, hc⟩ := vmRun_inv hr
    rcases hc with ⟨-, d', y', -, -, -, o1, h1, hrun, hc⟩ | ⟨-, hr2⟩ | ⟨-, -, -, -, -, rfl⟩ | ⟨-, pc', L', st', h1, hs, hr2⟩
    · have a1 := ih _ _ _ _ _ _ _ _ hrun
      rcases hc with ⟨-, hr2⟩ | ⟨v, -, hr2⟩ | ⟨E, -, hr2⟩
      · exact a1.tr (ih _ _ _ _ _ _ _ _ hr2)
      · exact a1.tr (ih _ _ _ _ _ _ _ _ hr2)
      · rw [(vmAfter_inv hr2).1]; exact a1
    · rw [(vmRet_inv hr2).1]; exact vmLe.rf _
    · exact ⟨Nat.le_succ _, Nat.le_add_right _ _, fun z => by cases z⟩
    · exact (vmStep_le hs).tr (ih _ _ _ _ _ _ _ _ hr2)
