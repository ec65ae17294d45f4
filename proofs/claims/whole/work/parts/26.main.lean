/-! ===== calls, and the induction ===== -/
section VMN
variable {κ : vmK} {p : Program} {l : Launch} {e : Env} {R : Room} {s : State} {m : MethodId} {args : Array Value} {below : List Frame} {meth : Method} {c : Code} {Q : State → Prop} {n0 s0 : Nat} {cc : ByteArray} {own : String} {isI : Bool} {S : List vmS} {pc pc' len : Nat} {en : vmE} {L L' st st' : List Value} {h h' : vmH}
theorem vm_stack (n : Nat) (st : List Value) : st.map (vmLift κ) = (((st.take n).reverse).map (vmLift κ)).reverse ++ (st.drop n).map (vmLift κ) := by
  rw [← List.map_reverse, List.reverse_reverse, ← List.map_append, List.take_append_drop]
theorem vm_room (hz : vmZv κ) {n : Nat} {ls : Array Slot} {st0 : List Value} (h : vmCat (st.drop n) ≤ 8) : 2 * (F0 m pc ls st0).monitorRoom + (((st.drop n).map (vmLift κ)).map fun v => v.category).sum ≤ 8 := by
  show 2 * 0 + _ ≤ 8
  rw [vmCat_lift hz]
  omega
theorem vm_recv (hex : vmEX κ s) {y : vmM} {b : Nat} (hcls : (y.2.2.2.2.1 < 13 ∧ vmNm y.2.2.2.2.1 = y.1.cls) ∨ (y.2.2.2.2.1 = 20 ∧ y.1.cls = "java/lang/String") ∨ (vmI b).1 = true) (hst : (vmI b).1 = false) {H : Heap} {locs : List Loc} (hR : vmRel κ h H) (hS : va_S (vmA κ) s.heap H locs) {r : Nat} {As : List Value} (hv : vmRecv y h (.ref r :: As) = true) :
    r < 3000000 ∧ ∃ cellB : Cell, H[vmAd κ r]? = some cellB ∧ cellB.vm.isStatics = false ∧ s.vm.findClass y.1.cls = some cellB.cls := by
  unfold vmRecv at hv
  dsimp only at hv
  split at hv
  · rename_i ci fs hf
    have hci : ci = y.2.2.2.2.1 := by simpa using hv
    subst hci
    by_cases h6 : r < 1000000
    · refine ⟨by omega, ?_⟩
      have hat := (hR.1 r _ h6 hf).2.1
      have hax : vmAd κ r = κ.1 + r := by unfold vmAd; rw [if_pos h6]
      rw [hax]
      rcases hcls with ⟨h13, hnm⟩ | ⟨h20, -⟩ | hz
      · obtain ⟨C, T, N, e1, e2, -⟩ := vmKindOk h13
        obtain ⟨q0, hq0⟩ := vmWs_get hR h6 hf
        have := va_recv hex.1 (vmWs_P hR) e1 hq0
        rw [← hnm, e2]
        exact this
      · exfalso
        rw [h20] at hat
        obtain ⟨r2, hr2, -⟩ := hat
        cases hr2
      · rw [hst] at hz; cases hz
    · have hqx := hR.2.2.1 r (by omega)
      rw [hf] at hqx
      rcases vmExt_inv (by omega) hqx.symm with ⟨a1, a2, a3, a4⟩ | ⟨a1, a2, a3, a4⟩ | ⟨a1, a4⟩
      · refine ⟨by omega, ?_⟩
        rw [vmAd_str (by omega) a1 a3]
        have hci := congrArg (fun z : vmC => match z with | .inr q => q.1 | .inl _ => 0) a4
        dsimp only at hci
        rcases hcls with ⟨h13, -⟩ | ⟨-, hnm⟩ | hz
        · omega
        · rw [hnm]
          exact vk_recv hex.2.2.2.2.1 a2 hS
        · rw [hst] at hz; cases hz
      · cases a4
      · cases a4
  · cases hv
/-- a call's run, whatever its sort -/
theorem vm_callRun (hC : vmCx κ p R s m args meth c cc own isI S) (hml : c.maxLocals = L.length) {b n : Nat} {y : vmM} (hg : vmGood b y) (hok : vmOkE S own isI cc pc en = true) (hop : en.1 = 21) (hb2 : en.2.2.2.1 = b) (hn2 : en.2.2.2.2.1 = n) (hargs : vmArgsOk y en.2.2.1 n st h) {d : Nat} {o1 : vmO} {h1 : vmH} {w : Cond} {pl : Nat} (hw : vmLk pl = some w) (hgw : goodWord w = true)
    (hwc : (∃ hh, y.2.2.2.2.2.2 ≠ [] ∧ (vmI b).1 = true ∧ (∀ (o9 : String) (i9 : Nat) (h9 : String), Cond.methodLinkNest o9 i9 y.1 h9 ∉ lw_tbl) ∧ w = .codeWith y.1 y.2.1 y.2.2.1 y.2.2.2.1 hh) ∨ w = .code y.1 y.2.1 y.2.2.1 y.2.2.2.1)
    (hM : vx_Met l y.1 (w :: vmTB) { frames := d + 1, cells := h1.1 - h.1, slots := h1.2.1 - h.2.1, locals := 64 * (d + 1) } (vmPC κ (st.take n).reverse h) (vmQC κ o1 h1) (vmXC κ o1 h1) (h1.1 - h.1) (h1.2.1 - h.2.1) (vmA κ))
    (hfr : d + 2 ≤ R.frames) (hlo : 64 * (d + 2) ≤ R.locals) {H : Heap} {locs : List Loc} {ls : Array Slot} (hL : vmLR κ c.maxLocals L ls) (hR : vmRel κ h H) (hS2 : va_S (vmA κ) s.heap H locs) (hbd : h.2.2.1 = true → H.size ≤ κ.1 + h.1) {cells slots : Nat} (hce : cells + (h1.1 - h.1) ≤ R.cells) (hsl : slots + (h1.2.1 - h.2.1) ≤ R.slots) :
    ∃ a, vx_Run p l e R s m args below meth c H locs cells slots (h1.1 - h.1) (h1.2.1 - h.2.1) (F0 m pc ls (st.map (vmLift κ))) ((st.drop n).map (vmLift κ)) (vmQC κ o1 h1 a) (vmXC κ o1 h1) (vmA κ) := by
  obtain ⟨hx, hb, hown, hts, hex, hin, hS, hfr0, hlo0⟩ := id hC
  obtain ⟨idx, i, a, n', b', pl', e0, eb, en', hcase⟩ := vm_ok21 hok hop
  have ebb : b' = b := eb.symm.trans hb2
  have enn : n' = n := en'.symm.trans hn2
  subst ebb; subst enn
  obtain ⟨S', lst, pl2, g1, g2, g3, g4, g5, g6, g9, g7, g8⟩ := hg
  obtain ⟨i1, i2, i3, i4, i5, i6, i7, i8⟩ := vmMI_spec g5
  rw [g4] at i1 i2 i3 i4 i5 i6 i7 i8
  have hwT : w ∈ vmTB := vmTB_in hw hgw
  have hFix : CallFix p m c cc c.maxLocals s args vmTB own := ⟨hx, hb, rfl, hown, hts⟩
  have hroom : (d + 1) + 1 ≤ R.frames ∧ 8 + (y.2.2.1 + 11) + 64 * (d + 1) ≤ R.locals := by omega
  have hW := vm_room (m := m) (pc := pc) (ls := ls) (st0 := st.map (vmLift κ)) (vmEX_zv hex) hargs.2.1
  have hpre : ∀ U : State, U.heap = H → s.WarmedH U.vm → vmPC κ (st.take n').reverse h (((st.take n').reverse).map (vmLift κ)).toArray U := fun U hU hW => ⟨rfl, vmEX_to hex hW hU hS2, by rw [hU]; exact hR, fun z => by rw [hU]; exact hbd z⟩
  have hlen : (((st.take n').reverse).map (vmLift κ)).length = n' := by rw [List.length_map, List.length_reverse]; exact hargs.1
  have hstack := vm_stack (κ := κ) n' st
  rcases hcase with ⟨k1, hd, hf⟩ | ⟨k1, hd, hf⟩ | ⟨k1, hd, hf⟩ | ⟨k1, hd, hf⟩ | ⟨k1, hd, hf⟩
  · -- virtual
    obtain ⟨rfl, hsw, hso⟩ := vmSite hS hf
    simp only [vmSOk, Bool.and_eq_true, Bool.not_eq_true', decide_eq_true_eq, decide_eq_false_iff_not] at hso
    obtain ⟨-, -, ⟨hst0, hcn⟩, hni⟩ := hso
    rw [g4] at hni
    have hwcode : w = .code y.1 y.2.1 y.2.2.1 y.2.2.2.1 := by
      rcases hwc with ⟨_, -, hz, -, -⟩ | hz
      · rw [hst0] at hz; cases hz
      · exact hz
    subst hwcode
    have hlk := hts _ (vmTB_in hsw rfl)
    simp only [vmWd, g4] at hlk
    cases hav : (st.take n').reverse with
    | nil =>
      have := hargs.1
      rw [← List.length_reverse, hav] at this
      simp at this
      omega
    | cons v0 As =>
      have hrv := hargs.2.2.1 (by rw [k1]; omega)
      rw [hav] at hrv hpre hlen hstack hM
      cases v0 with
      | ref r =>
        obtain ⟨hr3, hcell⟩ := vm_recv hex g8 hst0 hR hS2 hrv
        rw [List.map_cons, vmLift_ref hr3] at hpre hlen hstack
        rw [List.reverse_cons, List.append_assoc] at hstack
        exact ⟨_, vx_runV (b := vmAd κ r) (C := y.1.cls) (As := As.map (vmLift κ)) (n := (vmI b').2.1) hFix hM ⟨callB_of _ hts (vmGoodIn hwT) rfl rfl rfl (hts _ i3) hlk ⟨i6, i7, i4⟩ hroom, hts _ (i2 hst0), hts _ (i8 hst0 hni)⟩ ⟨vmPC_blind _ _ _, hcell, hpre⟩ rfl (by simp only [List.length_cons] at hlen; omega) hL.2.1 hstack hW hd ⟨hce, hsl⟩⟩
      | _ => unfold vmRecv at hrv; cases hrv
  · -- special
    obtain ⟨rfl, hsw, hso⟩ := vmSite hS hf
    simp only [vmSOk, Bool.and_eq_true, Bool.not_eq_true', decide_eq_true_eq, decide_eq_false_iff_not] at hso
    obtain ⟨-, -, ⟨hst0, hcn⟩, hni⟩ := hso
    rw [g4] at hni
    have hwcode : w = .code y.1 y.2.1 y.2.2.1 none := by
      rw [← g9 hni]
      rcases hwc with ⟨_, -, hz, -, -⟩ | hz
      · rw [hst0] at hz; cases hz
      · exact hz
    subst hwcode
    have hlk := hts _ (vmTB_in hsw rfl)
    simp only [vmWd, g4] at hlk
    cases hav : (st.take n').reverse with
    | nil =>
      have := hargs.1
      rw [← List.length_reverse, hav] at this
      simp at this
      omega
    | cons v0 As =>
      have hrv := hargs.2.2.1 (by rw [k1]; omega)
      rw [hav] at hrv hpre hlen hstack hM
      cases v0 with
      | ref r =>
        obtain ⟨hr3, hcell⟩ := vm_recv hex g8 hst0 hR hS2 hrv
        rw [List.map_cons, vmLift_ref hr3] at hpre hlen hstack
        rw [List.reverse_cons, List.append_assoc] at hstack
        exact ⟨_, vx_runI (b := vmAd κ r) (As := As.map (vmLift κ)) (n := (vmI b').2.1) hFix hM ⟨callB_of _ hts (vmGoodIn hwT) rfl rfl rfl (hts _ i3) hlk ⟨i6, i7, i4⟩ hroom, hni, hts _ (i2 hst0)⟩ ⟨vmPC_blind _ _ _, hpre⟩ rfl (by simp only [List.length_cons] at hlen; omega) hL.2.1 hstack hW hd ⟨hce, hsl⟩⟩
      | _ => unfold vmRecv at hrv; cases hrv
  · -- special, of a nest mate
    obtain ⟨rfl, hsw, hso⟩ := vmSite hS hf
    simp only [vmSOk, Bool.and_eq_true, Bool.not_eq_true', decide_eq_true_eq, decide_eq_false_iff_not] at hso
    obtain ⟨-, -, ⟨hst0, hcn⟩, hni⟩ := hso
    rw [g4] at hni
    have hwcode : w = .code y.1 y.2.1 y.2.2.1 none := by
      rw [← g9 hni]
      rcases hwc with ⟨_, -, hz, -, -⟩ | hz
      · rw [hst0] at hz; cases hz
      · exact hz
    subst hwcode
    have hlk := hex.2.2.2.2.2.2.2.2.2.2.1 _ _ _ _ (vmLk_in hsw)
    rw [g4] at hlk
    cases hav : (st.take n').reverse with
    | nil =>
      have := hargs.1
      rw [← List.length_reverse, hav] at this
      simp at this
      omega
    | cons v0 As =>
      have hrv := hargs.2.2.1 (by rw [k1]; omega)
      rw [hav] at hrv hpre hlen hstack hM
      cases v0 with
      | ref r =>
        obtain ⟨hr3, hcell⟩ := vm_recv hex g8 hst0 hR hS2 hrv
        rw [List.map_cons, vmLift_ref hr3] at hpre hlen hstack
        rw [List.reverse_cons, List.append_assoc] at hstack
        exact ⟨_, vx_runIN (b := vmAd κ r) (As := As.map (vmLift κ)) (n := (vmI b').2.1) hFix hM ⟨va_cnB _ hts (vmGoodIn hwT) rfl rfl rfl hlk (hts _ i3) ⟨i6, i7, i4⟩ hroom, hni, hts _ (i2 hst0)⟩ ⟨vmPC_blind _ _ _, hpre⟩ rfl (by simp only [List.length_cons] at hlen; omega) hL.2.1 hstack hW hd ⟨hce, hsl⟩⟩
      | _ => unfold vmRecv at hrv; cases hrv
  · -- static
    obtain ⟨rfl, hsw, hso⟩ := vmSite hS hf
    simp only [vmSOk, Bool.and_eq_true, decide_eq_true_eq] at hso
    obtain ⟨-, -, hst0, hcn⟩ := hso
    have hlk := hts _ (vmTB_in hsw rfl)
    simp only [vmWd, g4] at hlk
    rcases hwc with ⟨hh, -, -, -, rfl⟩ | rfl
    · exact ⟨_, vx_runSX (hh := hh) (As := ((st.take n').reverse).map (vmLift κ)) (n := (vmI b').2.1) hFix hM ⟨⟨rfl, rfl, hroom.1, hroom.2, pay_in hts (vmGoodIn hwT), List.mem_cons_self⟩, hts _ hwT, hts _ i3, ⟨i6, i7⟩, fun sig hsig => by rw [hsig] at i4; exact (Option.some.inj i4).symm, hlk, hts _ (i1 hst0)⟩ ⟨vmPC_blind _ _ _, hpre⟩ rfl (by omega) hL.2.1 hstack hW hd ⟨hce, hsl⟩⟩
    · exact ⟨_, vx_runS (As := ((st.take n').reverse).map (vmLift κ)) (n := (vmI b').2.1) hFix hM ⟨callB_of _ hts (vmGoodIn hwT) rfl rfl rfl (hts _ i3) hlk ⟨i6, i7, i4⟩ hroom, hts _ (i1 hst0)⟩ ⟨vmPC_blind _ _ _, hpre⟩ rfl (by omega) hL.2.1 hstack hW hd ⟨hce, hsl⟩⟩
  · -- static, of a nest mate
    obtain ⟨rfl, hsw, hso⟩ := vmSite hS hf
    simp only [vmSOk, Bool.and_eq_true, decide_eq_true_eq] at hso
    obtain ⟨-, -, hst0, hcn⟩ := hso
    have hlk := hex.2.2.2.2.2.2.2.2.2.2.1 _ _ _ _ (vmLk_in hsw)
    rw [g4] at hlk
    rcases hwc with ⟨hh, -, -, hnn, rfl⟩ | rfl
    · exact absurd (by rw [← g4]; exact vmLk_in hsw) (hnn _ _ _)
    · exact ⟨_, vx_runSN (As := ((st.take n').reverse).map (vmLift κ)) (n := (vmI b').2.1) hFix hM ⟨va_cnB _ hts (vmGoodIn hwT) rfl rfl rfl hlk (hts _ i3) ⟨i6, i7, i4⟩ hroom, hts _ (i1 hst0), trivial⟩ ⟨vmPC_blind _ _ _, hpre⟩ rfl (by omega) hL.2.1 hstack hW hd ⟨hce, hsl⟩⟩
theorem vm_sound (hl : l.stackTraces = false) (hall : ∀ b y, vmP b = some y → vmGood b y) : ∀ N, vmSound l κ N := by
  intro N
  induction N with
  | zero =>
    intro y S isI lst d pc L st h h' out p e R s m args below meth c Q n0 s0 g1 g2 hC hml hfr hlo hr
    cases hr
  | succ N ih =>
    intro y S isI lst d pc L st h h' out p e R s m args below meth c Q n0 s0 g1 g2 hC hml hfr hlo hr hn hs hc hsl hsz hE
    obtain ⟨en, hen, hcase⟩ := vmRun_inv hr
    have hok : vmOkE S y.1.cls isI y.2.1 pc en = true := vmOk_at g2 (by rw [← g1]; exact hen)
    rcases hcase with ⟨hop, d', y', rfl, hP, hargs, o1, h1, hrun, hgo⟩ | ⟨hop, hret⟩ | ⟨hop, hd8, hcat, hh0, rfl, rfl⟩ | ⟨hop, pc', L', st', h1, hst, hr2⟩
    · have hg := hall _ _ hP
      have a1 := vmRun_le _ _ _ _ _ _ _ _ _ hrun
      have a2 : vmLe h1 h' := by
        rcases hgo with ⟨-, hr2⟩ | ⟨v, -, hr2⟩ | ⟨E, -, hr2⟩
        · exact vmRun_le _ _ _ _ _ _ _ _ _ hr2
        · exact vmRun_le _ _ _ _ _ _ _ _ _ hr2
        · rw [(vmAfter_inv hr2).1]; exact vmLe.rf _
      obtain ⟨pl, w, hw, hgw, hwc, hM⟩ := vm_met hl ih hg hrun (by rw [vmCat_rev, ← vmArgs_len]; exact hargs.2.2.2)
      intro H locs ls hL hR hS2
      refine vm_size fun hbound => ?_
      have hbd : h.2.2.1 = true → H.size ≤ κ.1 + h.1 := fun z => by have := hsz z; omega
      have b1 := a1.1; have b2 := a1.2.1; have b3 := a2.1; have b4 := a2.2.1
      obtain ⟨a, hRun⟩ := vm_callRun (l := l) (e := e) (below := below) (cells := h.1 - n0) (slots := h.2.1 - s0) hC hL.1.symm hg hok hop rfl rfl hargs hw hgw hwc hM (by omega) (by omega) hL hR hS2 hbd (by omega) (by omega)
      have hcells : h.1 - n0 + (h1.1 - h.1) = h1.1 - n0 := by omega
      have hslots : h.2.1 - s0 + (h1.2.1 - h.2.1) = h1.2.1 - s0 := by omega
      obtain ⟨idx, i, a3, n', b', pl', e0, -⟩ := vm_ok21 hok hop
      refine vm_back hRun hS2 (fun v H1 locs1 ho hR1 hS1 => ?_) (fun x q ce H1 locs1 ho hR1 hS1 hq hv hcl => ?_)
      · rw [hcells, hslots]
        rcases hgo with ⟨ho2, hr2⟩ | ⟨v2, ho2, hr2⟩ | ⟨E, ho2, hr2⟩
        · rw [ho2] at ho
          cases ho
          have := ih y S isI lst (d' + 1) _ L _ h1 h' out p e R s m args below meth c Q n0 s0 g1 g2 hC hml hfr hlo hr2 (by omega) (by omega) hc hsl (fun z => hsz (a1.2.2 z)) hE H1 locs1 ls hL hR1 hS1
          rw [e0] at this
          exact this
        · rw [ho2] at ho
          cases ho
          have := ih y S isI lst (d' + 1) _ L _ h1 h' out p e R s m args below meth c Q n0 s0 g1 g2 hC hml hfr hlo hr2 (by omega) (by omega) hc hsl (fun z => hsz (a1.2.2 z)) hE H1 locs1 ls hL hR1 hS1
          rw [e0] at this
          exact this
        · rw [ho2] at ho
          cases ho
      · rw [hcells, hslots]
        rcases hgo with ⟨ho2, hr2⟩ | ⟨v2, ho2, hr2⟩ | ⟨E, ho2, hr2⟩
        · rw [ho2] at ho; cases ho
        · rw [ho2] at ho; cases ho
        · rw [ho2] at ho
          cases ho
          obtain ⟨rfl, hx⟩ := vmAfter_inv hr2
          rcases hx with ⟨hh0, ho3⟩ | ⟨v, hca, ho3⟩
          · exact hE.2.2.2.2.1 _ _ _ _ _ _ _ _ ho3 hh0 hR1 hS1 hq hv hcl
          · exact hE.2.2.2.2.2 _ _ _ _ _ _ _ _ _ hca ho3 ⟨hL.2.1, hL.2.2.1, fun _ h => absurd h List.not_mem_nil⟩ hR1 hS1 hq hv hcl
    · obtain ⟨rfl, hx⟩ := vmRet_inv hret
      intro H locs ls hL hR hS2
      rcases hx with ⟨c0, rfl, hty, ho⟩ | ⟨v, ty, c0, rfl, hty, hnr, ho⟩ | ⟨v, c0, rfl, hty, ho⟩
      · rcases vm_ok22 hok hop with ⟨z, hd⟩ | ⟨z, hd⟩ | ⟨z, hd⟩
        · exact hE.1 _ _ _ _ ho hty hd hR hS2
        · omega
        · omega
      · rcases vm_ok22 hok hop with ⟨z, hd⟩ | ⟨z, hd⟩ | ⟨z, hd⟩
        · omega
        · exact hE.2.1 _ _ _ _ _ _ ho hty hnr hd hR hS2
        · omega
      · rcases vm_ok22 hok hop with ⟨z, hd⟩ | ⟨z, hd⟩ | ⟨z, hd⟩
        · omega
        · omega
        · exact hE.2.2.1 _ _ _ _ _ ho hty hd hR hS2
    · obtain ⟨ik, len, hd, ht, hee⟩ := vm_ok23 hok hop
      rw [hee] at ht
      intro H locs ls hL hR hS2
      exact hE.2.2.2.1 _ _ _ _ _ _ _ _ _ _ _ rfl hh0 hC.2.2.2.2.2.2.1 hd ht hL hR hS2 hcat (by omega) (by omega) hn hs rfl
    · have l1 := vmStep_le hst
      have l2 := vmRun_le _ _ _ _ _ _ _ _ _ hr2
      have b1 := l1.1; have b2 := l1.2.1; have b3 := l2.1; have b4 := l2.2.1
      exact vm_any hC hok hop hst hn hs (by omega) (by omega) (by omega) (by omega) hsz (ih y S isI lst d pc' L' st' h1 h' out p e R s m args below meth c Q n0 s0 g1 g2 hC hml hfr hlo hr2 (by omega) (by omega) hc hsl (fun z => hsz (l1.2.2 z)) hE)
end VMN
