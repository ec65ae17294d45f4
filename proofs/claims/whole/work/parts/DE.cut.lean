/-! ===== a number cut: twice a shift is the sort's own width ===== -/
theorem lr_bit2 {x : Int64} {z : Int} (h0 : 0 ≤ z) (h1 : z < 64) {i : Nat} (hi : i < 64) : (lr x z).toBitVec.getLsbD i = if i + z.toNat < 64 then x.toBitVec.getLsbD (i + z.toNat) else x.toBitVec.getLsbD 63 := by
  unfold lr
  rw [i64_64 (by omega) (by omega), Int64.toBitVec_shiftRight]
  have := sh_amt ⟨z.toNat, by omega⟩
  dsimp only at this
  rw [show ((z.toNat : Nat) : Int) = z by omega] at this
  rw [this]
  show (x.toBitVec.sshiftRight (BitVec.ofNat 64 z.toNat).toNat).getLsbD i = _
  rw [BitVec.getLsbD_sshiftRight, BitVec.toNat_ofNat, Nat.mod_eq_of_lt (by omega)]
  rw [show decide (64 ≤ i) = false from decide_eq_false (by omega), BitVec.msb_eq_getLsbD_last]
  by_cases e : i + z.toNat < 64
  · rw [if_pos e, if_pos (by omega), Nat.add_comm]; rfl
  · rw [if_neg e, if_neg (by omega)]; rfl
theorem sx_bit {w v i : Nat} {x : BitVec w} (hi : i < v) (hw : 0 < w) : (x.signExtend v).getLsbD i = if i < w then x.getLsbD i else x.getLsbD (w - 1) := by
  rw [BitVec.getLsbD_signExtend, decide_eq_true hi, Bool.true_and, BitVec.msb_eq_getLsbD_last]
theorem i32_sx {v : Int64} : (i32 v.toInt).toBitVec = v.toBitVec.signExtend 32 := rfl
theorem i64_sx {w : Nat} {x : BitVec w} : (i64 x.toInt).toBitVec = x.signExtend 64 := rfl
theorem ct_v {s : Int} {v : Int64} (s0 : 0 ≤ s) (s1 : s ≤ 3) : lr (ll v (64 - sl 8 s)) (64 - sl 8 s) = ctV s v := by
  have hs : s = 0 ∨ s = 1 ∨ s = 2 ∨ s = 3 := by omega
  unfold ctV
  have key : ∀ (z : Int) (w : Nat), 0 ≤ z → z + w = 64 → 0 < w → ∀ i : Nat, i < 64 → (lr (ll v z) z).toBitVec.getLsbD i = if i < w then v.toBitVec.getLsbD i else v.toBitVec.getLsbD (w - 1) := by
    intro z w z0 zw w0 i hi
    rw [lr_bit2 z0 (by omega) hi]
    by_cases e : i < w
    · rw [if_pos (by omega), if_pos e, ll_bit z0 (by omega) (by omega), decide_eq_true (by omega), Bool.true_and, Nat.add_sub_cancel]
    · rw [if_neg (by omega), if_neg e, ll_bit z0 (by omega) (by omega), decide_eq_true (by omega), Bool.true_and, show 63 - z.toNat = w - 1 by omega]
  rcases hs with rfl | rfl | rfl | rfl
  · rw [show (64 : Int) - sl 8 0 = 56 by decide, if_pos rfl]
    refine Int64.toBitVec_inj.1 (BitVec.eq_of_getLsbD_eq fun i hi => ?_)
    rw [key 56 8 (by omega) (by omega) (by omega) i hi]
    show _ = (((v.toBitVec.signExtend 32).signExtend 8).signExtend 64).getLsbD i
    rw [sx_bit hi (by omega)]
    by_cases e : i < 8
    · rw [if_pos e, if_pos e, sx_bit e (by omega), if_pos (by omega), sx_bit (by omega) (by omega), if_pos (by omega)]
    · rw [if_neg e, if_neg e, sx_bit (by omega) (by omega), if_pos (by omega), sx_bit (by omega) (by omega), if_pos (by omega)]
  · rw [show (64 : Int) - sl 8 1 = 48 by decide, if_neg (by omega), if_pos rfl]
    refine Int64.toBitVec_inj.1 (BitVec.eq_of_getLsbD_eq fun i hi => ?_)
    rw [key 48 16 (by omega) (by omega) (by omega) i hi]
    show _ = (((v.toBitVec.signExtend 32).signExtend 16).signExtend 64).getLsbD i
    rw [sx_bit hi (by omega)]
    by_cases e : i < 16
    · rw [if_pos e, if_pos e, sx_bit e (by omega), if_pos (by omega), sx_bit (by omega) (by omega), if_pos (by omega)]
    · rw [if_neg e, if_neg e, sx_bit (by omega) (by omega), if_pos (by omega), sx_bit (by omega) (by omega), if_pos (by omega)]
  · rw [show (64 : Int) - sl 8 2 = 32 by decide, if_neg (by omega), if_neg (by omega), if_pos rfl]
    refine Int64.toBitVec_inj.1 (BitVec.eq_of_getLsbD_eq fun i hi => ?_)
    rw [key 32 32 (by omega) (by omega) (by omega) i hi]
    show _ = ((v.toBitVec.signExtend 32).signExtend 64).getLsbD i
    rw [sx_bit hi (by omega)]
    by_cases e : i < 32
    · rw [if_pos e, if_pos e, sx_bit e (by omega), if_pos (by omega)]
    · rw [if_neg e, if_neg e, sx_bit (by omega) (by omega), if_pos (by omega)]
  · rw [show (64 : Int) - sl 8 3 = 0 by decide, if_neg (by omega), if_neg (by omega), if_neg (by omega)]
    refine Int64.toBitVec_inj.1 (BitVec.eq_of_getLsbD_eq fun i hi => ?_)
    rw [key 0 64 (by omega) (by omega) (by omega) i hi, if_pos hi]
theorem c300 {d : Nat} {k t p : Int} {v : Int64} {T : Tt} {σ : St} {Q : vmO → vmH → Prop} (s0 : 0 ≤ σ 1237 382 t) (s1 : σ 1237 382 t ≤ 3) (t0 : 0 ≤ t) (t1 : t < 4) (p0 : 0 ≤ p) (p1 : p < 40) : Ca d k 300 [.ref 382, .int (i32 t), .int (i32 p), .long v] (E T σ) Q = Q (.inl (some (.long (ctV (σ 1237 382 t) v)))) (E T (upA σ 1239 382 (fu (σ 1239 382) (40 * t + p) (ctV (σ 1237 382 t) v).toInt))) := by
  have h0 := ob_md
  rw [n300 _ _ _ _ _ _ _ _ _ h0]
  simp (disch := (first | assumption | omega | exact Nat.le_of_ble_eq_true rfl | rfl)) only [w300_0, w300_2, w300_4, w300_5, w300_8, w300_9, w300_10, w300_11, w300_12, w300_14, w300_15, w300_18, w300_20, w300_21, w300_22, w300_23, w300_24, w300_25, w300_27, w300_28, w300_30, w300_31, w300_32, w300_33, w300_36, w300_38, w300_39, w300_40, w300_41, w300_42, w300_43, Ko_n, Ko_v, vX_i, vX_r, vX_l, vX_j, reduceIte, ct_v s0 s1, upA_s, fu_s, i64_toInt]
