/-! ===== behind the constructors what holds between calls holds ===== -/
def ck0 : Bool := [(1200, 382), (700, 10), (701, 10), (1100, 0), (1205, 382), (1107, 0), (1239, 382), (1109, 0), (1238, 382), (1203, 382), (406, 3)].all (fun p : Nat × Nat => upO p.1 p.2 == some []) && (upO 1108 0 == some [(3, -1), (2, -1), (1, -1), (0, -1)]) && (upO 1237 382 == some [(3, -1), (2, -1), (1, -1), (0, -1)]) && [(400, 3), (401, 3), (402, 3), (403, 3), (404, 3), (405, 3), (301, 7), (411, 3), (412, 3), (413, 3), (704, 10), (705, 10), (706, 10), (803, 2), (804, 2), (1101, 0), (1206, 382), (1102, 0), (1214, 382), (1211, 382), (805, 190), (805, 254), (805, 318)].all (fun p : Nat × Nat => sD p.1 p.2 0 == 0) && (sD 1103 0 0 == -1) && (sD 1215 382 0 == -1)
theorem ck_ok : ck0 = true := by decide +kernel
theorem ck_z {t o : Nat} (h : (t, o) ∈ [((1200 : Nat), (382 : Nat)), (700, 10), (701, 10), (1100, 0), (1205, 382), (1107, 0), (1239, 382), (1109, 0), (1238, 382), (1203, 382), (406, 3)]) : sD t o = fun _ => 0 := by
  have k := ck_ok
  unfold ck0 at k
  simp only [Bool.and_eq_true] at k
  have a := List.all_eq_true.mp k.1.1.1.1.1 (t, o) h
  exact sD_z (beq_iff_eq.mp a)
theorem ck_s {t o : Nat} (h : (t, o) ∈ [((400 : Nat), (3 : Nat)), (401, 3), (402, 3), (403, 3), (404, 3), (405, 3), (301, 7), (411, 3), (412, 3), (413, 3), (704, 10), (705, 10), (706, 10), (803, 2), (804, 2), (1101, 0), (1206, 382), (1102, 0), (1214, 382), (1211, 382), (805, 190), (805, 254), (805, 318)]) : sD t o 0 = 0 := by
  have k := ck_ok
  unfold ck0 at k
  simp only [Bool.and_eq_true] at k
  exact beq_iff_eq.mp (List.all_eq_true.mp k.1.1.2 (t, o) h)
theorem ck_8 : sD 1108 0 = sD 1237 382 ∧ (sD 1108 0 = fun i => dlk [(3, -1), (2, -1), (1, -1), (0, -1)] i.toNat) ∧ sD 1103 0 0 = -1 ∧ sD 1215 382 0 = -1 := by
  have k := ck_ok
  unfold ck0 at k
  simp only [Bool.and_eq_true, beq_iff_eq] at k
  have a := sD_up k.1.1.1.1.2
  have b := sD_up k.1.1.1.2
  exact ⟨a.trans b.symm, a, k.1.2, k.2⟩
theorem ok_0 {K : Int → Int} (h : ∀ j, K j = 0) : okK K 999 := by
  have sc : ∀ o, scV K o 999 := fun o => by
    refine ⟨fun k k0 k1 => ⟨by simp only [h]; omega, by simp only [h]; omega, fun _ => h _, fun _ => Or.inl (h _), fun _ => h _⟩, fun w w0 w1 => ?_, ?_, ?_, ?_⟩
    · rw [h] at w1; omega
    · simp only [h]; omega
    · simp only [h]; omega
    · simp only [h]; omega
  have lw : lwV K := fun fc _ x => absurd (h 5) x
  refine ⟨⟨⟨Or.inl ⟨h 1, h 2⟩, ?_, ?_, ?_, ?_, ?_, fun w _ _ => ⟨?_, ?_, fun e e0 e1 => ?_⟩, lwV_G (by rw [h]; omega) lw, ?_, ?_⟩, sc 7, fun i i0 i1 => ?_⟩, lw, fun i i0 i1 => ?_⟩
  · simp only [h]; omega
  · simp only [h]; omega
  · simp only [h]; omega
  · simp only [h]; omega
  · simp only [h]; omega
  · simp only [h]; omega
  · simp only [h]; omega
  · rw [h] at e1; omega
  · simp only [h]; omega
  · simp only [h]; omega
  · rw [h] at i1; omega
  · rw [h] at i1; omega
theorem tie_0 {K : Int → Int} (h : ∀ j, K j = 0) : tie sD 2 K := by
  have inz : ∀ g : Int → Bool, i64 0 = bs (fun k => inB 0 0 k && g k) := fun g => by
    rw [bs_none]
    refine bs_congr fun k _ _ => ?_
    rw [show inB 0 0 k = false from decide_eq_false (by omega)]
    rfl
  have inz0 : i64 0 = bs (inB 0 0) := by
    rw [bs_none]
    exact bs_congr fun k _ _ => (show inB 0 0 k = false from decide_eq_false (by omega)).symm
  refine ⟨⟨?_, ?_, ?_, ?_, ?_, ?_, ?_, fun w _ _ => ?_, fun w e _ _ e0 e1 => ?_, ?_, fun i i0 i1 => ?_⟩, ⟨fun k k0 k1 => ⟨?_, ?_⟩, fun w w0 w1 => ?_, ?_, ?_, ?_⟩, ?_, ?_, fun i i0 i1 => ?_⟩
  · rw [h]; exact ck_s (t := 400) (o := 3) (by decide)
  · rw [h]; exact ck_s (t := 401) (o := 3) (by decide)
  · rw [h]; exact ck_s (t := 402) (o := 3) (by decide)
  · rw [h]; exact ck_s (t := 404) (o := 3) (by decide)
  · rw [h]; exact ck_s (t := 403) (o := 3) (by decide)
  · rw [h]; exact ck_s (t := 301) (o := 7) (by decide)
  · rw [h]; exact ck_s (t := 405) (o := 3) (by decide)
  · rw [h, ck_z (t := 406) (o := 2 + 1) (by decide)]
  · rw [h] at e1; omega
  · rw [h, h]
    refine ⟨ck_s (t := 401) (o := 3) (by decide), ck_s (t := 402) (o := 3) (by decide), ?_, ?_, ?_, fun k d k0 k1 => ?_⟩
    · rw [ck_s (t := 411) (o := 2 + 1) (by decide)]; exact inz0
    · rw [ck_s (t := 412) (o := 2 + 1) (by decide)]; exact inz _
    · rw [ck_s (t := 413) (o := 2 + 1) (by decide)]; exact inz _
    · omega
  · rw [h] at i1; omega
  · rw [h, ck_z (t := 700) (o := 2 + 8) (by decide)]
  · rw [h, ck_z (t := 701) (o := 2 + 8) (by decide)]
  · rw [h] at w1; omega
  · rw [h]; exact ck_s (t := 704) (o := 10) (by decide)
  · rw [h]; exact ck_s (t := 705) (o := 10) (by decide)
  · rw [h]; exact ck_s (t := 706) (o := 10) (by decide)
  · rw [h]; exact ck_s (t := 804) (o := 2) (by decide)
  · rw [ck_s (t := 803) (o := 2) (by decide)]; omega
  · rw [h] at i1; omega
theorem Inv_0 : Inv 999 sD := by
  have K0 : sD 1200 382 = fun _ => 0 := ck_z (by decide)
  have hz : ∀ j, sD 1200 382 j = 0 := fun j => by rw [K0]
  refine ⟨⟨?_, ?_⟩, ⟨?_, ?_, ?_, ?_⟩, ⟨?_, ?_, ?_, ?_⟩, ⟨?_, ?_, ?_, ?_⟩, ?_⟩
  · exact tie_0 hz
  · exact ok_0 hz
  · rw [ck_z (t := 1100) (o := 0) (by decide), ck_z (t := 1205) (o := 382) (by decide)]
  · rw [ck_s (t := 1101) (o := 0) (by decide), ck_s (t := 1206) (o := 382) (by decide)]
  · rw [ck_s (t := 1206) (o := 382) (by decide)]; omega
  · intro z _ _; rw [ck_z (t := 1205) (o := 382) (by decide)]; show (0 : Int) ≤ 0 ∧ (0 : Int) ≤ 255; omega
  · rw [ck_s (t := 1102) (o := 0) (by decide), ck_s (t := 1214) (o := 382) (by decide)]
  · rw [ck_8.2.2.1, ck_8.2.2.2]
  · rw [ck_s (t := 1211) (o := 382) (by decide)]; omega
  · rw [ck_s (t := 1211) (o := 382) (by decide)]; omega
  · intro j j0 j1
    rw [ck_8.2.1, ck_z (t := 1109) (o := 0) (by decide)]
    have c : j = 0 ∨ j = 1 ∨ j = 2 ∨ j = 3 := by omega
    rcases c with rfl | rfl | rfl | rfl <;> decide
  · rw [ck_z (t := 1107) (o := 0) (by decide), ck_z (t := 1239) (o := 382) (by decide)]
  · exact ck_8.1
  · rw [ck_z (t := 1109) (o := 0) (by decide), ck_z (t := 1238) (o := 382) (by decide)]
  · intro i i0 i1
    rw [ck_z (t := 1203) (o := 382) (by decide)]
    have c : i = 0 ∨ i = 1 ∨ i = 2 := by omega
    refine ⟨?_, Or.inl rfl⟩
    rcases c with rfl | rfl | rfl
    · exact ck_s (t := 805) (o := 190) (by decide)
    · exact ck_s (t := 805) (o := 254) (by decide)
    · exact ck_s (t := 805) (o := 318) (by decide)
