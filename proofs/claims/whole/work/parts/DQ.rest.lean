/-! ===== what is left to go: the mathematics ===== -/
def rsF (c y : Int → Int) (t z : Int) : Int := if y z < far then y z + c t - c z else hiR
def loR (c y : Int → Int) (t z : Int) : Int := if c z = -1 then 0 else rsF c y t z
theorem bfI_u {lo D : Int → Int} {N : Nat} {b v : Int} (hI : bfI lo D N) (b0 : 0 ≤ b) (b1 : b < N) (v0 : 0 ≤ v) (hl : v < D b) (hlo : lo b ≤ v) (hv : v ≤ 181 * fnD D N) : bfI lo (fu D b v) N ∧ smD2 (fu D b v) N < smD2 D N := by
  have ib := hI b b0 b1
  have hnew : v < hiR := by omega
  have fle : fnD D N ≤ fnD (fu D b v) N := cnt_le N (fun j hj hp => by
    have hp2 := of_decide_eq_true hp
    refine decide_eq_true ?_
    by_cases ej : (j : Int) = b
    · rw [ej, fu_s]; exact hnew
    · rw [fu_n ej]; exact hp2)
  refine ⟨fun z z0 z1 => ?_, ?_⟩
  · by_cases ez : z = b
    · rw [ez, fu_s]
      refine ⟨⟨by omega, by omega⟩, fun _ => ⟨hlo, ?_⟩⟩
      by_cases hfb : D b < hiR
      · have := (ib.2 hfb).2; omega
      · have := cnt_lt (p := fun z => decide (D z < hiR)) (q := fun z => decide (fu D b v z < hiR)) (j := b.toNat) (by
          rw [show ((b.toNat : Nat) : Int) = b by omega]
          exact decide_eq_true (by rw [fu_s]; exact hnew)) (by
          rw [show ((b.toNat : Nat) : Int) = b by omega]
          exact decide_eq_false hfb) N (fun j hj hp => by
          have hp2 := of_decide_eq_true hp
          refine decide_eq_true ?_
          by_cases ej : (j : Int) = b
          · rw [ej, fu_s]; exact hnew
          · rw [fu_n ej]; exact hp2) (by omega)
        have t : fnD D N + 1 ≤ fnD (fu D b v) N := this
        omega
    · rw [fu_n ez]
      have iz := hI z z0 z1
      exact ⟨iz.1, fun w => ⟨(iz.2 w).1, by have := (iz.2 w).2; omega⟩⟩
  · rw [smD2_fu b0, if_pos (by omega)]
    omega
theorem bs_sym {W H k e : Int} (h : wh2 W H) (k0 : 0 ≤ k) (k1 : k < W * H) (e0 : 0 ≤ e) (e1 : e < 4) (hn : bsC W H k e ≠ -1) : ∃ e' : Int, 0 ≤ e' ∧ e' < 4 ∧ bsC W H (bsC W H k e) e' = k := by
  have r := rd_in e0 e1
  obtain ⟨e', a, b, he⟩ := rd_inv (e := 3 - rdD e) (by omega) (by omega)
  refine ⟨e', a, b, ?_⟩
  unfold bsC at hn ⊢
  rw [he]
  exact nb_sym h k0 k1 r.1 r.2 hn
theorem rs_s {W H t k e : Int} {c R : Int → Int} {N : Nat} (h : wh2 W H) (hc : csIn c (W * H)) (hN : (N : Int) = W * H) (t0 : 0 ≤ t) (t1 : t < W * H) (hI : bfI (loR c (dD W H c t N) t) R N) (k0 : 0 ≤ k) (k1 : k < W * H) (e0 : 0 ≤ e) (e1 : e < 4) (hn : bsC W H k e ≠ -1) (hR : R (bsC W H k e) < hiR) (hcb : c (bsC W H k e) ≠ -1) (hl : R (bsC W H k e) + c (bsC W H k e) < R k) : bfI (loR c (dD W H c t N) t) (fu R k (R (bsC W H k e) + c (bsC W H k e))) N ∧ smD2 (fu R k (R (bsC W H k e) + c (bsC W H k e))) N < smD2 R N := by
  have hm := wh_mul h
  have hfar : far = 1000000000 := rfl
  have hhi : hiR = 536870912 := rfl
  have gr := dD_gr (t := t) h hc hN
  obtain ⟨e', a, b, hs⟩ := bs_sym h k0 k1 e0 e1 hn
  have hi := nb_in h k0 k1 (d := rdD e) hn
  have hi1 : 0 ≤ bsC W H k e ∧ bsC W H k e < W * H := ⟨hi.1, hi.2.1⟩
  have r := rd_in a b
  generalize bsC W H k e = q at *
  have iq := hI q hi1.1 (by omega)
  have iq2 := iq.2 hR
  have hcq := hc q hi1.1 hi1.2
  refine bfI_u hI k0 (by omega) (by omega) hl ?_ (by omega)
  unfold loR
  by_cases ck : c k = -1
  · rw [if_pos ck]; omega
  · rw [if_neg ck]
    have l := iq2.1
    unfold loR at l
    rw [if_neg hcb] at l
    unfold rsF at l ⊢
    by_cases yq : dD W H c t N q < far
    · rw [if_pos yq] at l
      have hnb : nbC W H q (rdD e') = k := hs
      have hy := gr.2.1 q (rdD e') hi1.1 hi1.2 r.1 r.2 (by rw [hnb]; omega) (by rw [hnb]; exact ck)
      rw [hnb] at hy
      have hck := hc k k0 k1
      have bq := dD_bnd (z := t) h hc hN (k := q) hi1.1 (by omega)
      rw [if_pos (by omega)]
      omega
    · rw [if_neg yq] at l
      omega
/-- nothing is left to do at a side -/
def nlR (W H : Int) (c R : Int → Int) (k e : Int) : Prop := bsC W H k e = -1 ∨ R (bsC W H k e) = hiR ∨ c (bsC W H k e) = -1 ∨ R k ≤ R (bsC W H k e) + c (bsC W H k e)
theorem rs_end {W H t : Int} {c R : Int → Int} {N : Nat} (h : wh2 W H) (hc : csIn c (W * H)) (hN : (N : Int) = W * H) (t0 : 0 ≤ t) (t1 : t < W * H) (hI : bfI (loR c (dD W H c t N) t) R N) (hT : c t ≠ -1 → R t = 0) (hE : ∀ k e, 0 ≤ k → k < W * H → 0 ≤ e → e < 4 → nlR W H c R k e) : ∀ z, 0 ≤ z → z < W * H → c z ≠ -1 → R z = rsF c (dD W H c t N) t z := by
  have hm := wh_mul h
  have hfar : far = 1000000000 := rfl
  have hhi : hiR = 536870912 := rfl
  have gr := dD_gr (t := t) h hc hN
  have hF := fnD_in (D := R) (N := N)
  have hct := hc t t0 t1
  have up := gr.2.2 (fun z => if c z = -1 then far else if R z < hiR then R z + c z - c t else far) (fun j j0 j1 => by
    rw [std_at j0 (by omega)]
    have cj := hc j j0 j1
    have ij := hI j j0 (by omega)
    by_cases e2 : j = t ∧ c t ≠ -1
    · rw [if_pos e2, e2.1, if_neg e2.2, hT e2.2, if_pos (by omega)]; omega
    · rw [if_neg e2]
      by_cases f1 : c j = -1
      · rw [if_pos f1]; omega
      · rw [if_neg f1]
        by_cases f2 : R j < hiR
        · rw [if_pos f2]
          have := (ij.2 f2).2
          omega
        · rw [if_neg f2]; omega) (fun j e j0 j1 e0 e1 hn hcn => by
    dsimp only
    have hi := nb_in h j0 j1 hn
    have hcs := hc _ hi.1 hi.2.1
    have cj := hc j j0 j1
    have ib := hI (nbC W H j e) hi.1 (by omega)
    have ij := hI j j0 (by omega)
    obtain ⟨e2, a2, b2, h3⟩ := rd_inv (e := 3 - e) (by omega) (by omega)
    have q := hE (nbC W H j e) e2 hi.1 hi.2.1 a2 b2
    have hb : bsC W H (nbC W H j e) e2 = j := by
      unfold bsC
      rw [h3]
      exact nb_sym h j0 j1 e0 e1 hn
    unfold nlR at q
    rw [hb] at q
    rw [if_neg hcn]
    have fb : (if R (nbC W H j e) < hiR then R (nbC W H j e) + c (nbC W H j e) - c t else far) ≤ far := by
      by_cases f2 : R (nbC W H j e) < hiR
      · rw [if_pos f2]
        have := (ib.2 f2).2
        omega
      · rw [if_neg f2]; omega
    by_cases f1 : c j = -1
    · rw [if_pos f1]; omega
    · rw [if_neg f1]
      by_cases f2 : R j < hiR
      · rw [if_pos f2]
        have := (ij.2 f2).2
        rcases q with q | q | q | q
        · omega
        · omega
        · omega
        · rw [if_pos (by omega)]; omega
      · rw [if_neg f2]; omega)
  intro z z0 z1 cz
  have u := up z z0 z1
  have iz := hI z z0 (by omega)
  have hcz := hc z z0 z1
  have by_ := dD_bnd (z := t) h hc hN (k := z) z0 (by omega)
  rw [if_neg cz] at u
  unfold rsF
  by_cases f1 : R z < hiR
  · rw [if_pos f1] at u
    have l := (iz.2 f1).1
    unfold loR rsF at l
    rw [if_neg cz] at l
    by_cases yz : dD W H c t N z < far
    · rw [if_pos yz] at l ⊢
      omega
    · rw [if_neg yz] at l
      omega
  · rw [if_neg f1] at u
    rw [if_neg (by omega)]
    omega
