section VTT
variable {κ : vmK} {p : Program} {l : Launch} {e : Env} {R : Room} {s : State} {m : MethodId} {args : Array Value} {below : List Frame} {meth : Method} {c : Code} {n0 s0 : Nat} {cc : ByteArray} {own : String} {S : List vmS} {pc len : Nat} {L st : List Value} {h h' : vmH}
theorem vm_thw (hts : ∀ w ∈ vmTB, w.before args s = true) (hex : vmEX κ s) {x : Nat} (hx : x < 4) {w : Cond} (hw : w ∈ vx_at0 "HedgePark" (vmIc x) (vmXn x) vmNs) : w.before args s = true ∧ vx_ot w = true := by
  have h1 := List.all_eq_true.mp (vmTh hx) w hw
  simp only [vmThB, Bool.and_eq_true, decide_eq_true_eq] at h1
  obtain ⟨h2, h3, h4⟩ := h1
  refine ⟨?_, h4⟩
  unfold vmThOk at h3
  rw [Bool.or_eq_true] at h3
  rcases h3 with h3 | h3
  · exact hts w (List.mem_filter.mpr ⟨h2, h3⟩)
  · split at h3
    · exact va_Nw.use rfl (hex.2.2.2.2.2.2.2.2.2.2.2.2.2.2.2.1 _ h2)
    · exact va_Nw.use rfl (hex.2.2.2.2.2.2.2.2.2.2.2.2.2.2.2.2 _ _ h2)
    · cases h3
theorem vmTh_ini {x : Nat} (hx : x < 4) : Cond.initialized (vmXn x) ∈ vmTB := by
  match x, hx with
  | 0, _ => exact vmTB_in (p := 1026) (by decide +kernel) rfl
  | 1, _ => exact vmTB_in (p := 1018) (by decide +kernel) rfl
  | 2, _ => exact vmTB_in (p := 1028) (by decide +kernel) rfl
  | 3, _ => exact vmTB_in (p := 1029) (by decide +kernel) rfl
  | n + 4, h => omega
theorem vm_throw (hl : l.stackTraces = false) (hx : p.tables.exec = Jvm.exec) (hb : c.code = cc) (hown : s.vm.findClass own = some m.cls) (hts : ∀ w ∈ vmTB, w.before args s = true) (hex : vmEX κ s) (hlocks : meth.locks = false) (hout : ∀ z ∈ c.exceptionTable.toList, False)
    {ik x : Nat} {H : Heap} {locs : List Loc} {ls : Array Slot} (hS : S.all (vmSOk own) = true) (hd : decode cc pc = .ok (.new ik, len)) (ht : vmTransX S cc pc (.new ik) len (23, 0, 0, x, 0, []) = true) (hL : vmLR κ c.maxLocals L ls) (hR : vmRel κ h H) (hS2 : va_S (vmA κ) s.heap H locs) (hcat : vmCat st ≤ 8) (hfr : 9 ≤ R.frames) (hlo : 576 ≤ R.locals) (hn : n0 ≤ h.1) (hs : s0 ≤ h.2.1) (hh : h' = (h.1 + 1, h.2.1 + 6, false, h.2.2.2)) (hrc : h'.1 - n0 ≤ R.cells) (hrs : h'.2.1 - s0 ≤ R.slots) :
    W p l e R s m args below meth c H locs (h.1 - n0) (h.2.1 - s0) (vx_MQ below (vmQC κ (.inr x) h') (vmXC κ (.inr x) h') args s (h'.1 - n0) (h'.2.1 - s0) (vmA κ)) (F0 m pc ls (st.map (vmLift κ))) := by
  subst hh
  simp only [vmTransX, Bool.and_eq_true, decide_eq_true_eq] at ht
  obtain ⟨rfl, ht⟩ := ht
  split at ht
  · rename_i ic d3 d4 d7
    split at ht
    · rename_i b _ _ _ _ b' _ _ f1 f2
      simp only [Bool.and_eq_true, decide_eq_true_eq] at ht
      obtain ⟨⟨hbb, hb4⟩, heq⟩ := ht
      have := vmEq_eq heq
      have hxb : x = b := by simpa using congrArg (fun q : vmE => q.2.2.2.1) this
      subst hxb
      obtain ⟨rfl, w1, -⟩ := vmSite hS f1
      obtain ⟨rfl, w2, -⟩ := vmSite hS f2
      have hk := hts _ (vmTB_in w1 rfl)
      have hm := hts _ (vmTB_in w2 rfl)
      simp only [vmWd, ← hbb] at hk hm
      refine vx_throw0 hx hb hl (names := vmNs) hown (vmTh_fit hb4) (by decide +kernel) hk (hts _ (vmTh_ini hb4)) ?_ ?_ hex.2.2.1 hex.2.2.2.1 hS2 hL.2.1 hd d3 d4 d7 (fun z hz => (hout z hz).elim) (by show 2 + 3 < _; omega) ?_ ?_ ?_ hlocks ?_ (fun z hz => hS2.2.2 z hz) ?_ ?_
      · intro w hw
        rcases vm_at0 (o2 := "HedgePark") (i2 := vmIc x) hw with rfl | h2
        · exact hm
        · exact (vm_thw hts hex hb4 h2).1
      · intro w hw
        rcases List.mem_cons.mp hw with rfl | hw
        · rfl
        · rcases List.mem_cons.mp hw with rfl | hw
          · rfl
          · rcases vm_at0 (o2 := "HedgePark") (i2 := vmIc x) hw with rfl | h2
            · rfl
            · exact (vm_thw hts hex hb4 h2).2
      · rw [vmCat_lift (vmEX_zv hex)]
        show _ + (13 * (2 + 1) + 42) ≤ _
        omega
      · show h.1 - n0 + 1 ≤ R.cells
        have : h.1 + 1 - n0 ≤ R.cells := hrc
        omega
      · have : h.2.1 + 6 - s0 ≤ R.slots := hrs
        omega
      · intro t ha hz hq
        refine ⟨⟨x, rfl, rfl⟩, ⟨fun k ce k6 hc => ?_, (fun z => by cases z), hR.2.2.1, Nat.le_trans hR.2.2.2 hz⟩, ⟨Nat.le_trans hS2.1 hz, fun q a1 a2 => (hq q (Nat.lt_of_lt_of_le a1 hS2.1)).trans (hS2.2.1 q a1 a2)⟩⟩
        obtain ⟨b1, b2, b3⟩ := hR.1 k ce k6 hc
        exact ⟨Nat.lt_succ_of_lt b1, b2.kept (hq _ b2.lt), b3⟩
      · show h.1 - n0 + 1 ≤ h.1 + 1 - n0
        omega
      · show h.2.1 - s0 + 6 ≤ h.2.1 + 6 - s0
        omega
    · cases ht
  · cases ht
end VTT
