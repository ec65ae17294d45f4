/-! ===== one step of the machine: constants, fields, arrays ===== -/
section VMU
variable {κ : vmK} {p : Program} {l : Launch} {e : Env} {R : Room} {s : State} {m : MethodId} {args : Array Value} {below : List Frame} {meth : Method} {c : Code} {Q : State → Prop} {n0 s0 : Nat} {cc : ByteArray} {own : String} {isI : Bool} {S : List vmS} {pc pc' len : Nat} {en : vmE} {L L' st st' : List Value} {h h' : vmH}
theorem vmAd_str {b : Nat} (h1 : 1000000 ≤ b) (h2 : b < 2000000) (h3 : b % 2 = 0) : vmAd κ b = κ.2.2.2.1 ((b - 1000000) / 2) := by
  unfold vmAd
  rw [if_neg (by omega), if_pos h2, if_pos h3]
theorem vmAd_row {b : Nat} (h1 : 1000000 ≤ b) (h2 : b < 2000000) (h3 : ¬ b % 2 = 0) : vmAd κ b = κ.2.2.2.2.1 ((b - 1000000) / 2) := by
  unfold vmAd
  rw [if_neg (by omega), if_pos h2, if_neg h3]
theorem vmTxs_len : vmTxs.length = 22 := rfl
theorem vs_ldc (hC : vmCx κ p R s m args meth c cc own isI S) {idx : Nat} (hd : decode cc pc = .ok (.ldc idx, len)) (ht : vmTrans S own isI pc (.ldc idx) len = some en) (hst : vmStep en L st h = some (pc', L', st', h'))
    (k : vmW κ p l e R s m args below meth c Q n0 s0 h' pc' L' st') : vmW κ p l e R s m args below meth c Q n0 s0 h pc L st := by
  obtain ⟨hx, hb, hown, hts, hex, hin, hS, hfr, hlo⟩ := hC
  simp only [vmTrans] at ht
  split at ht
  · rename_i hl
    subst hl
    split at ht
    · rename_i hf
      cases ht
      obtain ⟨rfl, hw, -⟩ := vmSite hS hf
      have hr := vi0 hst
      cases hr
      intro H locs ls hL hR hS2
      exact lv_ldc hx hb hown (hts _ (vmTB_in hw rfl)) hd (k H locs ls hL hR hS2)
    · rename_i b _ _ hf
      cases ht
      obtain ⟨rfl, hw, hok⟩ := vmSite hS hf
      have hr := vi26 hst
      cases hr
      simp only [vmSOk, Bool.and_eq_true, decide_eq_true_eq] at hok
      have h1 : 1000000 ≤ b := Nat.le_of_ble_eq_true hok.2.1
      have h2 : b < 1000000 + 2 * vmTxs.length := Nat.le_of_ble_eq_true hok.2.2.1
      have h3 : b % 2 = 0 := hok.2.2.2
      have h4 := hex.2.2.2.2.2.1 own _ b (vmLk_in hw) h1 h2 h3
      rw [vmTxs_len] at h2
      intro H locs ls hL hR hS2
      have k2 := k H locs ls hL hR hS2
      rw [List.map_cons, vmLift_ref (by omega), vmAd_str h1 (by omega) h3] at k2
      exact va_ldcS hx hb hown h4 hd k2
    · cases ht
  · cases ht
theorem vs_ldc_w (hC : vmCx κ p R s m args meth c cc own isI S) {idx : Nat} (hd : decode cc pc = .ok (.ldc_w idx, len)) (ht : vmTrans S own isI pc (.ldc_w idx) len = some en) (hst : vmStep en L st h = some (pc', L', st', h'))
    (k : vmW κ p l e R s m args below meth c Q n0 s0 h' pc' L' st') : vmW κ p l e R s m args below meth c Q n0 s0 h pc L st := by
  obtain ⟨hx, hb, hown, hts, hex, hin, hS, hfr, hlo⟩ := hC
  simp only [vmTrans] at ht
  split at ht
  · rename_i hl
    subst hl
    split at ht
    · rename_i hf
      cases ht
      obtain ⟨rfl, hw, -⟩ := vmSite hS hf
      have hr := vi0 hst
      cases hr
      intro H locs ls hL hR hS2
      exact lv_ldcw hx hb hown (hts _ (vmTB_in hw rfl)) hd (k H locs ls hL hR hS2)
    · rename_i b _ _ hf
      cases ht
      obtain ⟨rfl, hw, hok⟩ := vmSite hS hf
      have hr := vi26 hst
      cases hr
      simp only [vmSOk, Bool.and_eq_true, decide_eq_true_eq] at hok
      have h1 : 1000000 ≤ b := Nat.le_of_ble_eq_true hok.2.1
      have h2 : b < 1000000 + 2 * vmTxs.length := Nat.le_of_ble_eq_true hok.2.2.1
      have h3 : b % 2 = 0 := hok.2.2.2
      have h4 := hex.2.2.2.2.2.1 own _ b (vmLk_in hw) h1 h2 h3
      rw [vmTxs_len] at h2
      intro H locs ls hL hR hS2
      have k2 := k H locs ls hL hR hS2
      rw [List.map_cons, vmLift_ref (by omega), vmAd_str h1 (by omega) h3] at k2
      exact vm_ldcw hx hb hown h4 hd k2
    · cases ht
  · cases ht
theorem vs_ldc2_w (hC : vmCx κ p R s m args meth c cc own isI S) {idx : Nat} (hd : decode cc pc = .ok (.ldc2_w idx, len)) (ht : vmTrans S own isI pc (.ldc2_w idx) len = some en) (hst : vmStep en L st h = some (pc', L', st', h'))
    (k : vmW κ p l e R s m args below meth c Q n0 s0 h' pc' L' st') : vmW κ p l e R s m args below meth c Q n0 s0 h pc L st := by
  obtain ⟨hx, hb, hown, hts, hex, hin, hS, hfr, hlo⟩ := hC
  simp only [vmTrans] at ht
  split at ht
  · rename_i hl
    subst hl
    split at ht
    · rename_i hf
      cases ht
      obtain ⟨rfl, hw, -⟩ := vmSite hS hf
      have hr := vi1 hst
      cases hr
      intro H locs ls hL hR hS2
      exact lv_ldc2 hx hb hown (hts _ (vmTB_in hw rfl)) hd (k H locs ls hL hR hS2)
    · cases ht
  · cases ht
theorem vs_getstatic (hC : vmCx κ p R s m args meth c cc own isI S) {idx : Nat} (hd : decode cc pc = .ok (.getstatic idx, len)) (ht : vmTrans S own isI pc (.getstatic idx) len = some en) (hst : vmStep en L st h = some (pc', L', st', h'))
    (k : vmW κ p l e R s m args below meth c Q n0 s0 h' pc' L' st') : vmW κ p l e R s m args below meth c Q n0 s0 h pc L st := by
  obtain ⟨hx, hb, hown, hts, hex, hin, hS, hfr, hlo⟩ := hC
  simp only [vmTrans] at ht
  split at ht
  · rename_i hl
    subst hl
    split at ht
    · rename_i a _ _ _ hf
      cases ht
      obtain ⟨rfl, hw, hok⟩ := vmSite hS hf
      have hr := vi0 hst
      cases hr
      simp only [vmSOk, Bool.and_eq_true, decide_eq_true_eq] at hok
      have ha : a = 1 := hok.2
      subst ha
      intro H locs ls hL hR hS2
      exact va_gets hx hb hex.2.2.2.2.2.2.1 hS2 hown (hts _ (vmTB_in hw rfl)) (fun _ h => h) hd (k H locs ls hL hR hS2)
    · rename_i b _ _ hf
      cases ht
      obtain ⟨rfl, hw, hok⟩ := vmSite hS hf
      have hr := vi26 hst
      cases hr
      simp only [vmSOk, Bool.and_eq_true, decide_eq_true_eq] at hok
      have hb2 : b = 3000000 := hok.2
      subst hb2
      intro H locs ls hL hR hS2
      exact va_gets hx hb hex.2.2.2.2.2.2.2.1 hS2 hown (hts _ (vmTB_in hw rfl)) (fun _ h => h) hd (k H locs ls hL hR hS2)
    · cases ht
  · cases ht
/-- what lies outside -/
theorem vmExt_inv {q : Nat} {ce : vmC} (h1 : 1000000 ≤ q) (he : vmExt κ q = some ce) : (q < 2000000 ∧ (q - 1000000) / 2 < vmTxs.length ∧ q % 2 = 0 ∧ ce = .inr (20, [.ref (q + 1), .int 0])) ∨ (q < 2000000 ∧ (q - 1000000) / 2 < vmTxs.length ∧ ¬ q % 2 = 0 ∧ ce = .inl (5, (vmByt ((q - 1000000) / 2)).length, .inl fun j => (vmByt ((q - 1000000) / 2)).getD j 0)) ∨ (q = 2000000 ∧ ce = .inl (0, κ.2.2.2.2.2.2.1, .inl κ.2.2.2.2.2.2.2.1)) := by
  unfold vmExt at he
  split at he
  · rename_i a1
    split at he
    · rename_i a2
      split at he
      · rename_i a3; exact Or.inl ⟨a1, a2, a3, (Option.some.inj he).symm⟩
      · rename_i a3; exact Or.inr (Or.inl ⟨a1, a2, a3, (Option.some.inj he).symm⟩)
    · cases he
  · split at he
    · rename_i a2; exact Or.inr (Or.inr ⟨a2, (Option.some.inj he).symm⟩)
    · cases he
theorem vs_getfield (hC : vmCx κ p R s m args meth c cc own isI S) {idx : Nat} (hd : decode cc pc = .ok (.getfield idx, len)) (ht : vmTrans S own isI pc (.getfield idx) len = some en) (hst : vmStep en L st h = some (pc', L', st', h'))
    (k : vmW κ p l e R s m args below meth c Q n0 s0 h' pc' L' st') : vmW κ p l e R s m args below meth c Q n0 s0 h pc L st := by
  obtain ⟨hx, hb, hown, hts, hex, hin, hS, hfr, hlo⟩ := hC
  simp only [vmTrans] at ht
  split at ht
  · rename_i hl
    subst hl
    split at ht
    · rename_i b cf _ hf
      cases ht
      obtain ⟨rfl, hw, hok⟩ := vmSite hS hf
      obtain ⟨q, fs, v, st0, rfl, hq, hv, hr⟩ := vi15 hst
      cases hr
      simp only [vmSOk, Bool.and_eq_true, Bool.or_eq_true, decide_eq_true_eq] at hok
      have hlink := hts _ (vmTB_in hw rfl)
      intro H locs ls hL hR hS2
      by_cases h6 : q < 1000000
      · obtain ⟨q0, hq0⟩ := vmWs_get hR h6 hq
        have hat := (hR.1 q _ h6 hq).2.1
        rcases hok.2 with ⟨hb13, hcN⟩ | ⟨hb20, -⟩
        · have hb13 : b < 13 := Nat.le_of_ble_eq_true hb13
          have hcN : cf < vmN b := Nat.le_of_ble_eq_true hcN
          obtain ⟨C, T, N, e1, e2, e3, e4, e5, e6, e7, e8, e9⟩ := vmKindOk hb13
          rw [List.map_cons, vmLift_own h6]
          simp only [vmWd, e4] at hlink
          exact va_get hx hb hts e5 hown hex.1 (vmWs_P hR) q0 hq0 e1 cf (by rw [← e3]; exact hcN) hlink (fun _ h => h) (by rw [List.getElem?_map, hv]; rfl) hd (k H locs ls hL hR hS2)
        · exfalso
          subst hb20
          obtain ⟨r, hr, -⟩ := hat
          cases hr
      · have hqx := hR.2.2.1 q (by omega)
        rw [hq] at hqx
        rcases vmExt_inv (by omega) hqx.symm with ⟨a1, a2, a3, a4⟩ | ⟨a1, a2, a3, a4⟩ | ⟨a1, a4⟩
        · cases a4
          have hs := hex.2.2.2.2.1.1 _ a2
          rw [List.map_cons, vmLift_ref (by omega), vmAd_str (by omega) a1 a3]
          match cf, hv with
          | 0, hv =>
            cases hv
            have k2 := k H locs ls hL hR hS2
            rw [List.map_cons, vmLift_ref (by omega), vmAd_row (by omega) (by omega) (by omega), show (q + 1 - 1000000) / 2 = (q - 1000000) / 2 by omega] at k2
            exact vk_getf hx hb hs.2.2.1 hS2 hown hlink (fun _ h => h) hd k2
          | 1, hv =>
            cases hv
            exact vk_getf hx hb hs.2.1 hS2 hown hlink (fun _ h => h) hd (k H locs ls hL hR hS2)
          | n + 2, hv => simp at hv
        · cases a4
        · cases a4
    · cases ht
  · cases ht
end VMU
