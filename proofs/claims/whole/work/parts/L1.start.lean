/-! ===== what holds at the law's entry ===== -/
def vmRx : List Nat := [78, 111, 132, 188, 190, 192, 137, 142, 200, 202, 147, 152, 231, 252, 254, 256, 257, 259, 261, 229, 222, 166]
def vmTm (i : Nat) : Term := .string "HedgePark$Reader" (vmRx.getD i 0)
def vmStr : List (String × Nat × Nat) := [("HedgePark$Reader", 78, 0), ("HedgePark$Reader", 111, 1), ("HedgePark$Reader", 132, 2), ("HedgePark$Reader", 188, 3), ("HedgePark$Reader", 190, 4), ("HedgePark$Reader", 192, 5), ("HedgePark$Reader", 137, 6), ("HedgePark$Reader", 142, 7), ("HedgePark$Reader", 200, 8), ("HedgePark$Reader", 202, 9), ("HedgePark$Reader", 147, 10), ("HedgePark$Reader", 152, 11), ("HedgePark$Reader", 231, 12), ("HedgePark$Reader", 252, 13), ("HedgePark$Reader", 254, 14), ("HedgePark$Reader", 256, 15), ("HedgePark$Reader", 257, 16), ("HedgePark$Reader", 259, 17), ("HedgePark$Reader", 261, 18), ("HedgePark$Reader", 229, 19), ("HedgePark$Reader", 222, 20), ("HedgePark$Reader", 166, 21), ("HedgeParkModel", 251, 1), ("HedgeParkModel", 221, 2), ("HedgeParkModel", 211, 3), ("HedgeParkModel", 213, 4), ("HedgeParkModel", 215, 5), ("HedgeParkModel", 226, 6), ("HedgeParkModel", 231, 7), ("HedgeParkModel", 217, 8), ("HedgeParkModel", 219, 9), ("HedgeParkModel", 236, 10), ("HedgeParkModel", 243, 11), ("HedgeParkModel", 166, 12), ("HedgeParkModel", 189, 13), ("HedgeParkModel", 191, 14), ("HedgeParkModel", 193, 15), ("HedgeParkModel", 195, 16), ("HedgeParkModel", 197, 17), ("HedgeParkModel", 199, 18), ("HedgeParkModel", 164, 19), ("HedgeParkModel", 156, 20), ("HedgeParkModel", 241, 21)]
abbrev vmLn : List Nat := vmTxs.map fun t => t.toList.length
abbrev vmBt : List (List Int32) := vmTxs.map fun t => t.toList.map fun ch => Int32.ofNat ch.toNat
theorem ck_ex : (List.range 22).all (fun i => decide (Cond.exactly (vmTm i) "java/lang/String" ∈ flatC narrow_1)) = true := by decide +kernel
theorem ck_co : (List.range 22).all (fun i => decide (Cond.eq (.field (vmTm i) "java/lang/String" "coder" "B") (.int 0) ∈ flatC narrow_1)) = true := by decide +kernel
theorem ck_ar : (List.range 22).all (fun i => decide (Cond.arrayOf (.field (vmTm i) "java/lang/String" "value" "[B") .byte ∈ flatC narrow_1)) = true := by decide +kernel
theorem ck_le : (List.range 22).all (fun i => decide (Cond.eq (.length (.field (vmTm i) "java/lang/String" "value" "[B")) (.int (Int32.ofNat (vmLn.getD i 0))) ∈ flatC narrow_1)) = true := by decide +kernel
theorem ck_el : (List.range 22).all (fun i => (List.range (vmLn.getD i 0)).all (fun j => decide (Cond.eq (.elem (.field (vmTm i) "java/lang/String" "value" "[B") (.int (Int32.ofNat j))) (.int ((vmBt.getD i []).getD j 0)) ∈ flatC narrow_1))) = true := by decide +kernel
theorem ck_ln : (List.range 22).all (fun i => Nat.ble (vmLn.getD i 0) 1000) = true := by decide +kernel
theorem ck_ne : (List.range 22).all (fun i => (List.range 22).all (fun j => (i == j) || decide (Int32.ofNat (vmLn.getD i 0) ≠ Int32.ofNat (vmLn.getD j 0)) || (List.range (vmLn.getD i 0)).any (fun p => Nat.blt p (vmLn.getD j 0) && decide ((vmBt.getD i []).getD p 0 ≠ (vmBt.getD j []).getD p 0)))) = true := by decide +kernel
theorem ck_ds : (List.range 22).all (fun i => (List.range 22).all (fun j => (i == j) || decide (vmTxs[i]? ≠ vmTxs[j]?))) = true := by decide +kernel
theorem ck_nc : (List.range 4).all (fun i => (List.range 4).all (fun j => (i == j) || decide (Cond.not (.castable (vmXn i) (vmXn j)) ∈ flatC narrow_1))) = true := by decide +kernel
theorem ck_st : vmStr.all (fun q => (decide (q.1 = "HedgePark$Reader") && decide (q.2.1 = vmRx.getD q.2.2 0)) || decide (Cond.eq (vmTm q.2.2) (.string q.1 q.2.1) ∈ flatC narrow_1)) = true := by decide +kernel
def vmSrk (w : Cond) : Bool := match w with
  | .stringRef a k t => vmStr.any (fun q => decide (q.1 = a) && decide (q.2.1 = k) && decide (vmTxs[q.2.2]? = some t))
  | _ => true
theorem srk_0 : (k2_sels lw_privs).all vmSrk = true := by decide +kernel
theorem srk_1 : tables_1_1.all vmSrk = true := by decide +kernel
theorem srk_2 : tables_1_2.all vmSrk = true := by decide +kernel
theorem srk_3 : tables_1_3.all vmSrk = true := by decide +kernel
theorem srk_4 : tables_1_4.all vmSrk = true := by decide +kernel
theorem srk_5 : tables_1_5.all vmSrk = true := by decide +kernel
theorem srk_6 : tables_1_6.all vmSrk = true := by decide +kernel
theorem srk_7 : tables_1_7.all vmSrk = true := by decide +kernel
theorem srk_8 : tables_1_8.all vmSrk = true := by decide +kernel
theorem srk_9 : tables_1_9.all vmSrk = true := by decide +kernel
theorem srk_10 : tables_1_10.all vmSrk = true := by decide +kernel
theorem srk_all : lw_tbl.all vmSrk = true := by
  show (k2_sels lw_privs ++ tables_1).all vmSrk = true
  rw [List.all_append, srk_0, Bool.true_and]
  unfold tables_1
  simp only [List.all_append, Bool.and_self, srk_1, srk_2, srk_3, srk_4, srk_5, srk_6, srk_7, srk_8, srk_9, srk_10]
theorem in_of {n : Nat} {f : Nat → Bool} (h : (List.range n).all f = true) {i : Nat} (hi : i < n) : f i = true := List.all_eq_true.mp h i (List.mem_range.mpr hi)
theorem of_u {o n d : String} {v v' : Value} {t : Nat} {A : Nat → Prop} {U : State} {H : Heap} (h : va_OF o n d v t A U H) (h' : va_OF o n d v' t A U H) : v = v' := by
  obtain ⟨cf, k, i, f, cell, h1, h2, h3, h4, h5, h6⟩ := h
  obtain ⟨cf', k', i', f', cell', g1, g2, g3, g4, g5, g6⟩ := h'
  rw [h1] at g1
  cases g1
  rw [h3] at g3
  cases g3
  rw [h5] at g5
  cases g5
  rfl
theorem eq_ref {args : Array Value} {s : State} {t u : Term} {a : Nat} (h : (Cond.eq t u).before args s = true) (ht : t.eval args s none [] s = some (.ref a)) : u.eval args s none [] s = some (.ref a) := by
  simp only [Cond.before, Cond.holds, Cond.value, ht] at h
  cases hv : u.eval args s none [] s with
  | none => simp [hv] at h
  | some v =>
    cases v <;> simp [hv] at h
    rw [h]
theorem str_at {b : Nat} {s : State} {A : Nat → Prop} (hs : ∀ c ∈ flatC narrow_1, c.before #[Value.ref b] s = true) (hA : ∀ a : Nat, a < s.heap.size → ¬ A a) :
    ∃ adK adV : Nat → Nat, vk_S 22 vmLn vmBt adK adV A s s.heap ∧ ∀ i : Nat, i < 22 → (vmTm i).eval #[Value.ref b] s none [] s = some (.ref (adK i)) := by
  have h0 : ∀ i : Nat, ∃ q : Nat × Nat, i < 22 → vk_S 1 [vmLn.getD i 0] [vmBt.getD i []] (fun _ => q.1) (fun _ => q.2) A s s.heap ∧ (vmTm i).eval #[Value.ref b] s none [] s = some (.ref q.1) := by
    intro i
    by_cases hi : i < 22
    · obtain ⟨K, V, h1, h2⟩ := vk_Sof (args := #[Value.ref b]) (s := s) (N := 1) (tm := fun _ => vmTm i) (len := [vmLn.getD i 0]) (byt := [vmBt.getD i []]) (A := A)
        (fun k hk => by
          obtain rfl : k = 0 := by omega
          have := Nat.le_of_ble_eq_true (in_of ck_ln hi)
          show vmLn.getD i 0 < 2 ^ 31
          omega)
        (fun k hk => hs _ (of_decide_eq_true (in_of ck_ex hi))) (fun k hk => hs _ (of_decide_eq_true (in_of ck_co hi))) (fun k hk => hs _ (of_decide_eq_true (in_of ck_ar hi)))
        (fun k hk => by
          obtain rfl : k = 0 := by omega
          exact hs _ (of_decide_eq_true (in_of ck_le hi)))
        (fun k hk j hj => by
          obtain rfl : k = 0 := by omega
          exact hs _ (of_decide_eq_true (in_of (in_of ck_el hi) (show j < vmLn.getD i 0 from hj))))
        (fun k j hk hj hkj => absurd (show k = j by omega) hkj) hA
      refine ⟨(K 0, V 0), fun _ => ⟨⟨fun k hk => ?_, fun k j hk hj _ => by omega⟩, h2 0 (by omega)⟩⟩
      obtain rfl : k = 0 := by omega
      exact h1.1 0 (by omega)
    · exact ⟨(0, 0), fun h => absurd h hi⟩
  obtain ⟨ad, had⟩ := Classical.axiomOfChoice h0
  refine ⟨fun i => (ad i).1, fun i => (ad i).2, ⟨fun i hi => (had i hi).1.1 0 (by omega), fun i j hi hj e => ?_⟩, fun i hi => (had i hi).2⟩
  obtain ⟨-, -, o1, t1⟩ := (had i hi).1.1 0 (by omega)
  obtain ⟨-, -, o2, t2⟩ := (had j hj).1.1 0 (by omega)
  have e' : (ad i).1 = (ad j).1 := e
  dsimp only at o1 o2 t1 t2
  rw [e'] at o1
  have ev : (ad i).2 = (ad j).2 := by
    exact Value.ref.inj (of_u o1 o2)
  rw [ev] at t1
  obtain ⟨c1, a1, a2, a3, a4, a5, a6, a7⟩ := t1
  obtain ⟨c2, b1, b2, b3, b4, b5, b6, b7⟩ := t2
  rw [a1] at b1
  cases b1
  have ck := in_of (in_of ck_ne hi) hj
  rw [Bool.or_eq_true, Bool.or_eq_true, beq_iff_eq] at ck
  rcases ck with (ck | ck) | ck
  · exact ck
  · exact absurd (a5.symm.trans b5) (of_decide_eq_true ck)
  · obtain ⟨p, p1, p2⟩ := List.any_eq_true.mp ck
    rw [Bool.and_eq_true] at p2
    have q1 := a6 p (List.mem_range.mp p1)
    have q2 := b6 p (Nat.le_of_ble_eq_true p2.1)
    rw [q1] at q2
    have q3 : (vmBt.getD i []).getD p 0 = (vmBt.getD j []).getD p 0 := by
      have t : Value.int ((vmBt.getD i []).getD p 0) = Value.int ((vmBt.getD j []).getD p 0) := Option.some.inj q2
      exact Value.int.inj t
    exact absurd q3 (of_decide_eq_true p2.2)
theorem str_R0 {b : Nat} {s : State} {adK : Nat → Nat} (hs : ∀ c ∈ flatC narrow_1, c.before #[Value.ref b] s = true) (hts : ∀ w ∈ lw_tbl, w.before #[Value.ref b] s = true) (hev : ∀ i : Nat, i < 22 → (vmTm i).eval #[Value.ref b] s none [] s = some (.ref (adK i)))
    (own : String) (idx : Nat) (tx : String) (i : Nat) (kl : i < 22) (et : vmTxs[i]? = some tx) (hm : Cond.stringRef own idx tx ∈ lw_tbl) : vk_R own idx tx (adK i) s := by
  have h1 : vmSrk (Cond.stringRef own idx tx) = true := List.all_eq_true.mp srk_all _ hm
  obtain ⟨q, q1, q2⟩ := List.any_eq_true.mp (show vmStr.any (fun q => decide (q.1 = own) && decide (q.2.1 = idx) && decide (vmTxs[q.2.2]? = some tx)) = true from h1)
  rw [Bool.and_eq_true, Bool.and_eq_true, decide_eq_true_iff, decide_eq_true_iff, decide_eq_true_iff] at q2
  obtain ⟨⟨q3, q4⟩, q5⟩ := q2
  have ql : q.2.2 < 22 := (List.getElem?_eq_some_iff.mp q5).1
  have eq : q.2.2 = i := by
    have ck := in_of (in_of ck_ds ql) kl
    rw [Bool.or_eq_true, beq_iff_eq] at ck
    rcases ck with ck | ck
    · exact ck
    · exact absurd (q5.trans et.symm) (of_decide_eq_true ck)
  refine vk_R.of (A := #[Value.ref b]) (hts _ hm) ?_
  have h2 := List.all_eq_true.mp ck_st q q1
  rw [Bool.or_eq_true, Bool.and_eq_true, decide_eq_true_iff, decide_eq_true_iff, decide_eq_true_iff] at h2
  rw [← eq, ← q3, ← q4]
  rcases h2 with ⟨e1, e2⟩ | e
  · rw [e1, e2]
    exact hev _ ql
  · exact eq_ref (hs _ e) (hev _ ql)
theorem tx_ck : (List.range 22).all (fun i => decide (vmTxs[i]? = some (vmTx (1000000 + 2 * i)))) = true := by decide +kernel
theorem str_R {b : Nat} {s : State} {adK : Nat → Nat} (hs : ∀ c ∈ flatC narrow_1, c.before #[Value.ref b] s = true) (hts : ∀ w ∈ lw_tbl, w.before #[Value.ref b] s = true) (hev : ∀ i : Nat, i < 22 → (vmTm i).eval #[Value.ref b] s none [] s = some (.ref (adK i)))
    (own : String) (idx k : Nat) (hm : Cond.stringRef own idx (vmTx k) ∈ lw_tbl) (k0 : 1000000 ≤ k) (k1 : k < 1000000 + 2 * vmTxs.length) (k2 : k % 2 = 0) : vk_R own idx (vmTx k) (adK ((k - 1000000) / 2)) s := by
  have len : vmTxs.length = 22 := rfl
  have hk : ∃ i, i < 22 ∧ k = 1000000 + 2 * i := ⟨(k - 1000000) / 2, by omega, by omega⟩
  obtain ⟨i, hi, e⟩ := hk
  have e2 : (k - 1000000) / 2 = i := by omega
  rw [e2]
  have et : vmTxs[i]? = some (vmTx (1000000 + 2 * i)) := of_decide_eq_true (in_of tx_ck hi)
  rw [← e] at et
  revert hm et
  generalize vmTx k = tx
  intro hm et
  exact str_R0 hs hts hev own idx tx i hi et hm
theorem wl_U : Cond.laysStatic Bundle.tN "UNASSIGNED_STACK" Bundle.steD ∈ lw_tbl := vmLk_in (p := 3100) (by decide +kernel)
theorem wl_S : Cond.laysStatic Bundle.tN "SUPPRESSED_SENTINEL" Bundle.listD ∈ lw_tbl := vmLk_in (p := 3102) (by decide +kernel)
theorem wl_C : Cond.laysStatic "java/lang/String" "COMPACT_STRINGS" "Z" ∈ lw_tbl := vmLk_in (p := 3180) (by decide +kernel)
theorem wl_F : Cond.laysStatic "jdk/internal/util/Preconditions" "SIOOBE_FORMATTER" "Ljava/util/function/BiFunction;" ∈ lw_tbl := vmLk_in (p := 3221) (by decide +kernel)
theorem wi_T : Cond.initialized Bundle.tN ∈ lw_tbl := vmLk_in (p := 1015) (by decide +kernel)
theorem wi_S : Cond.initialized "java/lang/String" ∈ lw_tbl := vmLk_in (p := 1020) (by decide +kernel)
theorem wi_P : Cond.initialized "jdk/internal/util/Preconditions" ∈ lw_tbl := vmLk_in (p := 1023) (by decide +kernel)
theorem wf_U : Cond.isRef (.static Bundle.tN "UNASSIGNED_STACK" Bundle.steD) ∈ flatC narrow_1 := by decide +kernel
theorem wf_S : Cond.isRef (.static Bundle.tN "SUPPRESSED_SENTINEL" Bundle.listD) ∈ flatC narrow_1 := by decide +kernel
theorem wf_C : Cond.eq (.static "java/lang/String" "COMPACT_STRINGS" "Z") (.int 1) ∈ flatC narrow_1 := by decide +kernel
theorem wf_F : Cond.isRef (.static "jdk/internal/util/Preconditions" "SIOOBE_FORMATTER" "Ljava/util/function/BiFunction;") ∈ flatC narrow_1 := by decide +kernel
theorem vw_len : vwCl.length = 13 := rfl
theorem start_EX {s : State} {b L : Nat} {xs : Nat → Int32} (hts : ∀ w ∈ lw_tbl, w.before #[Value.ref b] s = true) (hX : va_X b L xs s s.heap) (hbl : b < s.heap.size) (hgv : (Jvm.Cond.and given_1 narrow_1).before #[Value.ref b] s = true) :
    ∃ κ : vmK, κ.1 = s.heap.size ∧ κ.2.2.2.2.2.1 = b ∧ κ.2.2.2.2.2.2.1 = L ∧ κ.2.2.2.2.2.2.2.1 = xs ∧ vmEX κ s := by
  rw [Cond.before_and, Bool.and_eq_true] at hgv
  have hs := flat_of_before _ hgv.2
  have hTB : ∀ w ∈ vmTB, w.before #[Value.ref b] s = true := fun w hw => hts w (List.mem_filter.mp hw).1
  have hA : ∀ a : Nat, a < s.heap.size → ¬ (fun q => s.heap.size ≤ q) a := fun a h => Nat.not_le.mpr h
  have kn : ∀ c : Nat, ∃ q : ClassId × (Nat → Nat), ∀ r, vwCl[c]? = some r → u_Kn s r.1 r.2.1 r.2.2 q.1 q.2 := by
    intro c
    by_cases hc : c < 13
    · obtain ⟨C, T, N, e, -, -, -, hin, -, -, hi, -⟩ := vmKindOk hc
      obtain ⟨cC, iS, h⟩ := u_known hTB hin (hTB _ hi)
      exact ⟨(cC, iS), fun r hr => by rw [e] at hr; cases hr; exact h⟩
    · exact ⟨(0, fun _ => 0), fun r hr => absurd (List.getElem?_eq_some_iff.mp hr).1 (by rw [vw_len]; exact hc)⟩
  obtain ⟨f, hf⟩ := Classical.axiomOfChoice kn
  obtain ⟨c1, k1, m1, a1, a2, a3⟩ := Cond.arrayClass_spec (hTB _ vwR_int)
  obtain ⟨c2, k2, m2, b1, b2, b3⟩ := Cond.arrayClass_spec (hTB _ vwR_long)
  obtain ⟨c3, k3, m3, d1, d2, d3⟩ := Cond.arrayClass_spec (hTB _ vwR_boolean)
  obtain ⟨m4, c4, k4, e1, e2, e3, e4, e5⟩ := Cond.arrayOver_spec (hts _ vwV_S)
  obtain ⟨m5, c5, k5, g1, g2, g3, g4, g5⟩ := Cond.arrayOver_spec (hts _ vwV_T)
  obtain ⟨adK, adV, s1, s2⟩ := str_at (A := fun q => s.heap.size ≤ q) hs hA
  obtain ⟨v, v1, v2⟩ := Cond.isRef_spec (hs _ wf_F)
  have v3 : v = .null ∨ ∃ t, v = .ref t := by
    cases v <;> first | (simp [Value.isRef] at v2; done) | exact Or.inl rfl | exact Or.inr ⟨_, rfl⟩
  refine ⟨(s.heap.size, (fun c => (f c).1, fun c => (f c).2), [(c1, .int), (c2, .long), (c3, .boolean), (c4, .object "HedgePark$Scene"), (c5, .object "HedgePark$Story")], adK, adV, b, L, xs, v), rfl, rfl, rfl, rfl, ?_⟩
  refine ⟨⟨fun c r hr => hf c r hr, fun k q hk => ?_⟩, rfl, vx_Zqof (hts _ wl_U) (hts _ wi_T) (hs _ wf_U) hA, vx_Zqof (hts _ wl_S) (hts _ wi_T) (hs _ wf_S) hA, s1, str_R hs hts s2, va_Zof (hts _ wl_C) (hts _ wi_S) (va_eqi (hs _ wf_C)) hA, va_Zof (hts _ wl_F) (hts _ wi_P) v1 hA, hX, hbl, fun own idx y host e => va_Nw.of rfl (hts _ e), fun C e => va_AO.of (hts _ e), fun i j hi hj hij => ?_, Nat.le_refl _, v3, fun y e => va_Nw.of rfl (hts _ e), fun i j e => va_Nw.of rfl (hts _ e)⟩
  · match k, hk with
    | 0, hk => cases hk; exact ⟨fun n z => ⟨fun k h => (by cases h), k1, a2, m1, a3⟩, a1⟩
    | 1, hk => cases hk; exact ⟨fun n z => ⟨fun k h => (by cases h), k2, b2, m2, b3⟩, b1⟩
    | 2, hk => cases hk; exact ⟨fun n z => ⟨fun k h => (by cases h), k3, d2, m3, d3⟩, d1⟩
    | 3, hk => cases hk; exact ⟨fun n z => ⟨fun k h => (by cases h), k4, e3, m4, e4⟩, k4, m4, e3, e4, e1, e5⟩
    | 4, hk => cases hk; exact ⟨fun n z => ⟨fun k h => (by cases h), k5, g3, m5, g4⟩, k5, m5, g3, g4, g1, g5⟩
    | k + 5, hk => cases hk
  · have ck := in_of (in_of ck_nc hi) hj
    rw [Bool.or_eq_true, beq_iff_eq, decide_eq_true_iff] at ck
    rcases ck with ck | ck
    · exact absurd ck hij
    · exact va_Nc.of (hs _ ck)
