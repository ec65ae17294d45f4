/-! ===== the law's run, from its first place ===== -/
theorem kB : (match k1 with
  | some (_, n, _) => n == 382
  | none => false) = true := by decide +kernel
theorem kS : (match k2 with
  | some (_, _, s) => Nat.ble s 100000
  | none => false) = true := by decide +kernel
theorem ks_ex : ∃ l1 s1 l2 s2, k1 = some (l1, 382, s1) ∧ exD 400 59 M_X12_init 0 (vmEntry M_X12_init [.ref 382]) [] ((382, .inr (12, vmNew 12)) :: l1) (382 + 1) (s1 + vmN 12) = some (l2, 405, s2) ∧ lF = (405, .inl (1, 1, [])) :: l2 ∧ s2 ≤ 100000 := by
  have a := kA
  have b := kB
  have c := kS
  cases h1 : k1 with
  | none => rw [h1] at b; cases b
  | some r1 =>
    obtain ⟨l1, n1, s1⟩ := r1
    rw [h1] at b
    have n1e : n1 = 382 := beq_iff_eq.mp b
    subst n1e
    cases h2 : k2 with
    | none => rw [h2] at a; cases a
    | some r2 =>
      obtain ⟨l2, n2, s2⟩ := r2
      rw [h2] at a c
      have n2e : n2 = 405 := beq_iff_eq.mp a
      subst n2e
      refine ⟨l1, s1, l2, s2, rfl, ?_, ?_, Nat.le_of_ble_eq_true c⟩
      · have h3 := h2
        unfold k2 at h3
        rw [h1] at h3
        exact h3
      · unfold lF
        rw [h2]
theorem ca_run {d b N : Nat} {k : Int} {y : vmM} {r : Nat} {bb : Nat → Option vmC} {l l' : List (Nat × dC)} {n s n' s' : Nat} {Q : vmO → vmH → Prop} (hP : vmP b = some y) (hr : dRecv y l [.ref r] = true) (hl : (vmArgs [.ref r]).length ≤ y.2.2.1) (he : exD N d y 0 (vmEntry y [.ref r]) [] l n s = some (l', n', s')) (hQ : Q (.inl none) (hD bb l' n' s')) : Ca d k b [.ref r] (hD bb l n s) Q := ⟨y, hP, fun _ => dRecv_ok hr, hl, N, _, _, exD_ok N d y 0 _ [] l n s l' n' s' he, hQ⟩
theorem bs0_e {a b a' b' n : Nat} {c c' : Bool} {S : Nat → Int} : bs0 (a, b, c, n, S) = bs0 (a', b', c', n, S) := rfl
theorem lawRun {n : Nat} {S : Nat → Int} (nn : (n : Int) ≤ 3072) (hS : ∀ j : Nat, j < n → -2147483648 ≤ S j ∧ S j < 2147483648) : ∃ N h', vmRun vmP N 60 M_L_law 0 [.ref 2000000, vmJ, vmJ, vmJ, vmJ, vmJ, vmJ, vmJ] [] (hD (bs0 (0, 0, true, n, S)) [] 0 0) = some (.inl (some (.int (i32 1))), h') ∧ h'.1 ≤ 1000 ∧ h'.2.1 ≤ 110000 := by
  obtain ⟨l1, s1, l2, s2, e1, e2, e3, e4⟩ := ks_ex
  have key : Wp 60 M_L_law 0 [.ref 2000000, vmJ, vmJ, vmJ, vmJ, vmJ, vmJ, vmJ] [] (hD (bs0 (0, 0, true, n, S)) [] 0 0) (fun o h => o = .inl (some (.int (i32 1))) ∧ h.1 ≤ 1000 ∧ h.2.1 ≤ 110000) := by
    have st1 : ∀ L Q, Wp 60 M_L_law 0 L [] (hD (bs0 (0, 0, true, n, S)) [] 0 0) Q = Wp 60 M_L_law 3 L [.ref 0] (hD (bs0 (0, 0, true, n, S)) [(0, .inr (11, vmNew 11))] 1 (0 + vmN 11)) Q := fun L Q => wp_step ((tb_0 0 rfl (by decide)).trans rfl) (fun z => by cases z) (fun z => by cases z) (fun z => by cases z) (dStep_ok rfl)
    rw [st1]
    simp (disch := (first | assumption | omega | exact Nat.le_of_ble_eq_true rfl | rfl)) only [w363_3, w363_4, Ko_n, Ko_v, vX_i, vX_r, vX_l, vX_j, reduceIte]
    refine ca_run (b := 112) (y := M_X11_init) (N := 400) rfl rfl (Nat.le_of_ble_eq_true rfl) (show exD 400 59 M_X11_init 0 (vmEntry M_X11_init [.ref 0]) [] [(0, .inr (11, vmNew 11))] 1 (0 + vmN 11) = some (l1, 382, s1) from e1) ?_
    have st2 : ∀ L Q, Wp 60 M_L_law 8 L [] (hD (bs0 (0, 0, true, n, S)) l1 382 s1) Q = Wp 60 M_L_law 11 L [.ref 382] (hD (bs0 (0, 0, true, n, S)) ((382, .inr (12, vmNew 12)) :: l1) (382 + 1) (s1 + vmN 12)) Q := fun L Q => wp_step ((tb_0 8 rfl (by decide)).trans rfl) (fun z => by cases z) (fun z => by cases z) (fun z => by cases z) (dStep_ok rfl)
    simp (disch := (first | assumption | omega | exact Nat.le_of_ble_eq_true rfl | rfl)) only [w363_7, Ko_n, Ko_v, vX_i, vX_r, vX_l, vX_j, reduceIte]
    rw [st2]
    simp (disch := (first | assumption | omega | exact Nat.le_of_ble_eq_true rfl | rfl)) only [w363_11, w363_12, Ko_n, Ko_v, vX_i, vX_r, vX_l, vX_j, reduceIte]
    refine ca_run (b := 173) (y := M_X12_init) (N := 400) rfl rfl (Nat.le_of_ble_eq_true rfl) e2 ?_
    have st3 : ∀ L Q, Wp 60 M_L_law 17 L [.int (i32 1)] (hD (bs0 (0, 0, true, n, S)) l2 405 s2) Q = Wp 60 M_L_law 19 L [.ref 405] (hD (bs0 (0, 0, true, n, S)) ((405, .inl (1, 1, [])) :: l2) 406 (s2 + 1)) Q := fun L Q => wp_step ((tb_0 17 rfl (by decide)).trans rfl) (fun z => by cases z) (fun z => by cases z) (fun z => by cases z) (dStep_ok rfl)
    simp (disch := (first | assumption | omega | exact Nat.le_of_ble_eq_true rfl | rfl)) only [w363_15, w363_16, Ko_n, Ko_v, vX_i, vX_r, vX_l, vX_j, reduceIte]
    rw [st3, ← e3, bs0_e (a' := 406) (b' := s2 + 1) (c' := true), hD_E]
    simp (disch := (first | assumption | omega | exact Nat.le_of_ble_eq_true rfl | rfl)) only [w363_19, w363_20, w363_21, Ko_n, Ko_v, vX_i, vX_r, vX_l, vX_j, reduceIte]
    refine lawL (d := 19) (b1 := 918) (b2 := s2 + 1 + 3072) nn hS (fun u1 u2 u3 σ a b => ⟨rfl, ?_, ?_⟩) 512 0 999 406 (s2 + 1) true sD _ _ _ (by omega) (by omega) (by omega) Inv_0 (by omega) (by omega) (by omega) (by omega)
    · show u1 ≤ 1000; omega
    · show u2 ≤ 110000; omega
  obtain ⟨N, o, h', hr, ho, h1, h2⟩ := key
  exact ⟨N, h', by rw [hr, ho], h1, h2⟩
