/-! ===== helpers of the step ===== -/
def vmZv (κ : vmK) : Prop := κ.2.2.2.2.2.2.2.2 = .null ∨ ∃ t, κ.2.2.2.2.2.2.2.2 = .ref t
theorem vmLift_cat {κ : vmK} (hz : vmZv κ) (v : Value) : (vmLift κ v).category = v.category := by
  cases v with
  | ref r =>
    unfold vmLift
    dsimp only
    split
    · rfl
    · rcases hz with h | ⟨t, h⟩ <;> rw [h] <;> rfl
  | _ => rfl
theorem vmLift_ref {κ : vmK} {r : Nat} (h : r < 3000000) : vmLift κ (.ref r) = .ref (vmAd κ r) := by
  show (if r < 3000000 then _ else _) = _
  rw [if_pos h]
theorem vmLift_own {κ : vmK} {r : Nat} (h : r < 1000000) : vmLift κ (.ref r) = .ref (κ.1 + r) := by
  rw [vmLift_ref (by omega)]
  unfold vmAd
  rw [if_pos h]
theorem vmOwn_lt {r : Nat} (h : vmOwn r = true) : r < 1000000 := by
  unfold vmOwn Nat.blt at h
  exact Nat.le_of_ble_eq_true h
theorem vmPut1_len (L : List Value) (i : Nat) : (vmPut1 L i).length = L.length := by
  unfold vmPut1
  split
  · rfl
  · split <;> simp
theorem vmPut1_get {L : List Value} {i j : Nat} {u : Value} (h : (vmPut1 L i)[j]? = some u) (hn : ∀ x, u ≠ .float x) : L[j]? = some u ∧ ¬ (j + 1 = i ∧ u.category = 2) := by
  cases i with
  | zero => exact ⟨h, fun z => by omega⟩
  | succ k =>
    unfold vmPut1 at h
    dsimp only at h
    by_cases e : j = k
    · subst e
      cases hL : L[j]? with
      | none =>
        rw [hL] at h
        dsimp only at h
        rw [hL] at h
        cases h
      | some w =>
        have hlt : j < L.length := (List.getElem?_eq_some_iff.mp hL).1
        rw [hL] at h
        cases w with
        | long x =>
          dsimp only at h
          rw [List.getElem?_set_self hlt] at h
          cases h
          exact absurd rfl (hn 0)
        | double x =>
          dsimp only at h
          rw [List.getElem?_set_self hlt] at h
          cases h
          exact absurd rfl (hn 0)
        | _ =>
          dsimp only at h
          rw [hL] at h
          cases h
          exact ⟨rfl, fun z => by have := z.2; simp [Value.category] at this⟩
    · have h2 : L[j]? = some u := by
        split at h
        · rwa [List.getElem?_set_ne (Ne.symm e)] at h
        · rwa [List.getElem?_set_ne (Ne.symm e)] at h
        · exact h
      exact ⟨h2, fun z => e (by omega)⟩
theorem vmLR_put {κ : vmK} (hz : vmZv κ) {nL i : Nat} {L : List Value} {ls ls' : Array Slot} {v w : Value} (h : vmLR κ nL L ls) (hi : i < L.length) (hw : vmLift κ v = w)
    (h' : lv_has ls' nL ((i, w) :: (vmLs κ L).filter (fun q => !(q.1 == i) && !(q.1 + 1 == i && q.2.category == 2)))) : vmLR κ nL (vmPut L i v) ls' := by
  obtain ⟨a1, a2, a3⟩ := h'
  refine ⟨by unfold vmPut; rw [List.length_set, vmPut1_len]; exact h.1, a1, a2, fun j u hj hn => ?_⟩
  unfold vmPut at hj
  by_cases e : j = i
  · subst e
    rw [List.getElem?_set_self (by rw [vmPut1_len]; exact hi)] at hj
    cases hj
    rw [hw]
    exact a3 (j, w) List.mem_cons_self
  · rw [List.getElem?_set_ne (Ne.symm e)] at hj
    obtain ⟨b1, b2⟩ := vmPut1_get hj hn
    refine a3 (j, vmLift κ u) (List.mem_cons_of_mem _ (List.mem_filter.mpr ⟨vmLs_mem.mpr ⟨j, u, b1, hn, rfl⟩, ?_⟩))
    simp only [Bool.and_eq_true, Bool.not_eq_true', beq_eq_false_iff_ne, ne_eq, Bool.and_eq_false_iff]
    refine ⟨e, ?_⟩
    rw [vmLift_cat hz]
    by_cases e2 : j + 1 = i
    · exact Or.inr (fun z => b2 ⟨e2, z⟩)
    · exact Or.inl e2
theorem vmLR_put2 {κ : vmK} (hz : vmZv κ) {nL i : Nat} {L : List Value} {ls ls' : Array Slot} {v w : Value} (h : vmLR κ nL L ls) (hi : i + 1 < L.length) (hw : vmLift κ v = w)
    (h' : lv_has ls' nL ((i, w) :: (vmLs κ L).filter (fun q => !(q.1 == i) && (!(q.1 == i + 1) && !(q.1 + 1 == i && q.2.category == 2))))) : vmLR κ nL (vmPut2 L i v) ls' := by
  obtain ⟨a1, a2, a3⟩ := h'
  refine ⟨by unfold vmPut2; rw [List.length_set, List.length_set, vmPut1_len]; exact h.1, a1, a2, fun j u hj hn => ?_⟩
  unfold vmPut2 at hj
  by_cases e0 : j = i + 1
  · subst e0
    rw [List.getElem?_set_self (by rw [List.length_set, vmPut1_len]; exact hi)] at hj
    cases hj
    exact absurd rfl (hn 0)
  · rw [List.getElem?_set_ne (Ne.symm e0)] at hj
    by_cases e : j = i
    · subst e
      rw [List.getElem?_set_self (by rw [vmPut1_len]; omega)] at hj
      cases hj
      rw [hw]
      exact a3 (j, w) List.mem_cons_self
    · rw [List.getElem?_set_ne (Ne.symm e)] at hj
      obtain ⟨b1, b2⟩ := vmPut1_get hj hn
      refine a3 (j, vmLift κ u) (List.mem_cons_of_mem _ (List.mem_filter.mpr ⟨vmLs_mem.mpr ⟨j, u, b1, hn, rfl⟩, ?_⟩))
      simp only [Bool.and_eq_true, Bool.not_eq_true', beq_eq_false_iff_ne, ne_eq, Bool.and_eq_false_iff]
      refine ⟨e, e0, ?_⟩
      rw [vmLift_cat hz]
      by_cases e2 : j + 1 = i
      · exact Or.inr (fun z => b2 ⟨e2, z⟩)
      · exact Or.inl e2
theorem vmCat_lift {κ : vmK} (hz : vmZv κ) (st : List Value) : ((st.map (vmLift κ)).map fun v => v.category).sum = vmCat st := by
  unfold vmCat
  rw [List.map_map]
  congr 1
  exact List.map_congr_left fun v _ => vmLift_cat hz v
theorem vmSite {S : List vmS} {own : String} {idx i k b c p : Nat} {a : Int} (hS : S.all (vmSOk own) = true) (h : vmFind S idx = some (i, k, a, b, c, p)) : i = idx ∧ vmLk p = some (vmWd own (i, k, a, b, c, p)) ∧ vmSOk own (i, k, a, b, c, p) = true := by
  unfold vmFind at h
  have h1 := List.find?_some h
  have h2 := List.mem_of_find?_eq_some h
  have h3 := List.all_eq_true.mp hS _ h2
  have h4 : i = idx := by simpa using h1
  refine ⟨h4, ?_, h3⟩
  unfold vmSOk at h3
  simp only [Bool.and_eq_true, decide_eq_true_eq] at h3
  exact h3.1
theorem vmIn_vp {i : Int32} {n : Nat} (h : vmIn i n = true) : vp_in i n := by
  unfold vmIn at h
  simp only [Bool.and_eq_true, decide_eq_true_eq] at h
  obtain ⟨h1, h2⟩ := h
  have h3 : i.toNatClampNeg < n := Nat.le_of_ble_eq_true h2
  rintro (z | z)
  · exact absurd h1 (by rw [Int32.not_le]; exact z)
  · omega
theorem vmLcmp_eq (x y : Int64) : lg_cmp x y = vmLcmp x y := by
  unfold lg_cmp vmLcmp
  by_cases h1 : x < y
  · have h2 : ¬ x > y := fun z => Int64.lt_irrefl (Int64.lt_trans h1 z)
    have h3 : ¬ x = y := fun z => Int64.lt_irrefl (z ▸ h1)
    rw [if_neg h2, if_neg h3, if_pos h1]
  · rw [if_neg h1]
    by_cases h2 : y < x
    · rw [if_pos h2, if_pos h2]
    · rw [if_neg h2, if_neg h2, if_pos]
      exact Int64.le_antisymm (Int64.not_lt.mp h2) (Int64.not_lt.mp h1)
theorem vm_lrem (x y : Int64) : x - x / y * y = x % y := by
  apply Int64.toInt_inj.mp
  have h1 := Int64.le_toInt (x % y)
  have h2 := Int64.toInt_lt (x % y)
  rw [Int64.toInt_sub, Int64.toInt_mul, Int64.toInt_div, Int.bmod_mul_bmod, Int.sub_bmod_bmod, Int.mul_comm (x.toInt.tdiv y.toInt), ← Int.tmod_def, ← Int64.toInt_mod]
  exact Int.bmod_eq_of_le_mul_two (by omega) (by omega)
theorem vmCok_lt {t : Nat} {a : vp_A} (h : vmCok (.inl (t, a))) : t < 5 := by
  obtain ⟨n, x⟩ := a
  unfold vmCok at h
  rcases x with f | f | f | f | f
  · exact h
  · exact h
  · exact h
  · exact h
  · exact h.1
theorem vmTys_at {κ : vmK} (hm : κ.2.2.1.map (fun q => q.2) = vmTys) {t : Nat} (ht : t < 5) : ∃ ty, κ.2.2.1[t]? = some (vmCls κ t, ty) ∧ vmTys[t]? = some ty := by
  have h1 : (κ.2.2.1.map (fun q => q.2))[t]? = vmTys[t]? := by rw [hm]
  rw [List.getElem?_map] at h1
  cases hq : κ.2.2.1[t]? with
  | none =>
    rw [hq] at h1
    exact absurd h1.symm (by rw [List.getElem?_eq_getElem (show t < vmTys.length from ht)]; exact fun z => by cases z)
  | some q =>
    rw [hq] at h1
    refine ⟨q.2, ?_, h1.symm⟩
    rw [show vmCls κ t = q.1 by unfold vmCls; rw [hq]]
