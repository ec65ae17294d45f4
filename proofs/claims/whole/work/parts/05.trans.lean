/-! ===== a method's entries out of its instructions ===== -/
/-- what a number of the pool leads to: number, sort, a, b, c, place of its word in lw_tbl -/
abbrev vmS : Type := Nat × Nat × Int × Nat × Nat × Nat
def vmEqL : List (Int × Nat) → List (Int × Nat) → Bool
  | [], [] => true
  | (a, b) :: r, (c, d) :: s => decide (a = c) && (decide (b = d) && vmEqL r s)
  | _, _ => false
theorem vmEqL_eq : ∀ {r s : List (Int × Nat)}, vmEqL r s = true → r = s
  | [], [], _ => rfl
  | (a, b) :: r, (c, d) :: s, h => by
    simp only [vmEqL, Bool.and_eq_true, decide_eq_true_eq] at h
    rw [h.1, h.2.1, vmEqL_eq h.2.2]
  | [], _ :: _, h => by simp [vmEqL] at h
  | _ :: _, [], h => by simp [vmEqL] at h
def vmEq (e f : vmE) : Bool := decide (e.1 = f.1) && (decide (e.2.1 = f.2.1) && (decide (e.2.2.1 = f.2.2.1) && (decide (e.2.2.2.1 = f.2.2.2.1) && (decide (e.2.2.2.2.1 = f.2.2.2.2.1) && vmEqL e.2.2.2.2.2 f.2.2.2.2.2))))
theorem vmEq_eq {e f : vmE} (h : vmEq e f = true) : e = f := by
  obtain ⟨a, b, c, d, e, g⟩ := e
  obtain ⟨a', b', c', d', e', g'⟩ := f
  simp only [vmEq, Bool.and_eq_true, decide_eq_true_eq] at h
  obtain ⟨h1, h2, h3, h4, h5, h6⟩ := h
  subst h1; subst h2; subst h3; subst h4; subst h5
  rw [vmEqL_eq h6]
def vmFind (S : List vmS) (idx : Nat) : Option vmS := S.find? (fun s => s.1 == idx)
def vmTgt (pc : Nat) (off : Int) : Option Nat := if 0 ≤ (pc : Int) + off then some ((pc : Int) + off).toNat else none
/-- fields: declared where, name, descriptor, final -/
def vmF (ci k : Nat) : String × String × String × Bool := match ci with
  | 0 => TX0 k
  | 1 => TX1 k
  | 2 => TX2 k
  | 3 => TX3 k
  | 4 => TX4 k
  | 5 => TX5 k
  | 6 => TX6 k
  | 7 => TX7 k
  | 8 => TX8 k
  | 9 => TX9 k
  | 10 => TX10 k
  | 11 => TX11 k
  | 12 => TX12 k
  | _ => if k = 0 then ("java/lang/String", "value", "[B", true) else ("java/lang/String", "coder", "B", true)
def vmNm (ci : Nat) : String := match vwCl[ci]? with
  | some r => r.1
  | none => "java/lang/String"
def vmXn (b : Nat) : String := match b with
  | 0 => "java/util/NoSuchElementException"
  | 1 => "java/lang/IllegalArgumentException"
  | 2 => "java/lang/IllegalStateException"
  | _ => "java/lang/IndexOutOfBoundsException"
def vmCn (c : ClassFile.Cond) : Nat := match c with
  | .eq => 0
  | .ne => 1
  | .lt => 2
  | .ge => 3
  | .gt => 4
  | .le => 5
def vmSw (pc : Nat) (lo : Int) : List Int → List (Int × Nat)
  | [] => []
  | o :: r => (lo, ((pc : Int) + o).toNat) :: vmSw pc (lo + 1) r
def vmSwP (pc : Nat) : List (Int × Int) → List (Int × Nat)
  | [] => []
  | (k, o) :: r => (k, ((pc : Int) + o).toNat) :: vmSwP pc r
def vmTrans (S : List vmS) (own : String) (isI : Bool) (pc : Nat) (i : Instr) (len : Nat) : Option vmE :=
  match i with
  | .iconst n => if len = 1 then some (0, pc + 1, n, 0, 0, []) else none
  | .bipush n => if len = 2 ∧ (Int8.ofInt n).toInt32 = Int32.ofInt n then some (0, pc + 2, n, 0, 0, []) else none
  | .sipush n => if len = 3 ∧ (Int16.ofInt n).toInt32 = Int32.ofInt n then some (0, pc + 3, n, 0, 0, []) else none
  | .lconst k => if len = 1 then some (1, pc + 1, (k.val : Int), 0, 0, []) else none
  | .ldc idx => if len = 2 then (match vmFind S idx with
    | some (_, 9, a, _, _, _) => some (0, pc + 2, a, 0, 0, [])
    | some (_, 11, _, b, _, _) => some (26, pc + 2, 0, b, 0, [])
    | _ => none) else none
  | .ldc_w idx => if len = 3 then (match vmFind S idx with
    | some (_, 9, a, _, _, _) => some (0, pc + 3, a, 0, 0, [])
    | some (_, 11, _, b, _, _) => some (26, pc + 3, 0, b, 0, [])
    | _ => none) else none
  | .ldc2_w idx => if len = 3 then (match vmFind S idx with
    | some (_, 10, a, _, _, _) => some (1, pc + 3, a, 0, 0, [])
    | _ => none) else none
  | .getstatic idx => if len = 3 then (match vmFind S idx with
    | some (_, 13, a, _, _, _) => some (0, pc + 3, a, 0, 0, [])
    | some (_, 17, _, b, _, _) => some (26, pc + 3, 0, b, 0, [])
    | _ => none) else none
  | .iload k => if len = 2 then some (2, pc + 2, 0, k, 0, []) else none
  | .iload_n k => if len = 1 then some (2, pc + 1, 0, k.val, 0, []) else none
  | .lload k => if len = 2 then some (2, pc + 2, 0, k, 1, []) else none
  | .lload_n k => if len = 1 then some (2, pc + 1, 0, k.val, 1, []) else none
  | .aload k => if len = 2 then some (2, pc + 2, 0, k, 2, []) else none
  | .aload_n k => if len = 1 then some (2, pc + 1, 0, k.val, 2, []) else none
  | .istore k => if len = 2 then some (3, pc + 2, 0, k, 0, []) else none
  | .istore_n k => if len = 1 then some (3, pc + 1, 0, k.val, 0, []) else none
  | .lstore k => if len = 2 then some (3, pc + 2, 0, k, 1, []) else none
  | .lstore_n k => if len = 1 then some (3, pc + 1, 0, k.val, 1, []) else none
  | .astore k => if len = 2 then some (3, pc + 2, 0, k, 2, []) else none
  | .astore_n k => if len = 1 then some (3, pc + 1, 0, k.val, 2, []) else none
  | .iinc k n => if len = 3 then some (4, pc + 3, n, k, 0, []) else none
  | .iadd => if len = 1 then some (5, pc + 1, 0, 0, 0, []) else none
  | .isub => if len = 1 then some (5, pc + 1, 0, 0, 1, []) else none
  | .imul => if len = 1 then some (5, pc + 1, 0, 0, 2, []) else none
  | .iand => if len = 1 then some (5, pc + 1, 0, 0, 3, []) else none
  | .ior => if len = 1 then some (5, pc + 1, 0, 0, 4, []) else none
  | .ixor => if len = 1 then some (5, pc + 1, 0, 0, 5, []) else none
  | .idiv => if len = 1 then some (5, pc + 1, 0, 0, 6, []) else none
  | .irem => if len = 1 then some (5, pc + 1, 0, 0, 7, []) else none
  | .ishl => if len = 1 then some (5, pc + 1, 0, 0, 8, []) else none
  | .ishr => if len = 1 then some (5, pc + 1, 0, 0, 9, []) else none
  | .iushr => if len = 1 then some (5, pc + 1, 0, 0, 10, []) else none
  | .ladd => if len = 1 then some (6, pc + 1, 0, 0, 0, []) else none
  | .lsub => if len = 1 then some (6, pc + 1, 0, 0, 1, []) else none
  | .lmul => if len = 1 then some (6, pc + 1, 0, 0, 2, []) else none
  | .land => if len = 1 then some (6, pc + 1, 0, 0, 3, []) else none
  | .lor => if len = 1 then some (6, pc + 1, 0, 0, 4, []) else none
  | .lxor => if len = 1 then some (6, pc + 1, 0, 0, 5, []) else none
  | .ldiv => if len = 1 then some (6, pc + 1, 0, 0, 6, []) else none
  | .lrem => if len = 1 then some (6, pc + 1, 0, 0, 7, []) else none
  | .lshl => if len = 1 then some (7, pc + 1, 0, 0, 0, []) else none
  | .lshr => if len = 1 then some (7, pc + 1, 0, 0, 1, []) else none
  | .lushr => if len = 1 then some (7, pc + 1, 0, 0, 2, []) else none
  | .i2l => if len = 1 then some (8, pc + 1, 0, 0, 0, []) else none
  | .l2i => if len = 1 then some (8, pc + 1, 0, 0, 1, []) else none
  | .i2b => if len = 1 then some (8, pc + 1, 0, 0, 2, []) else none
  | .i2s => if len = 1 then some (8, pc + 1, 0, 0, 3, []) else none
  | .i2c => if len = 1 then some (8, pc + 1, 0, 0, 4, []) else none
  | .lcmp => if len = 1 then some (9, pc + 1, 0, 0, 0, []) else none
  | .dup => if len = 1 then some (10, pc + 1, 0, 0, 0, []) else none
  | .pop => if len = 1 then some (10, pc + 1, 0, 0, 3, []) else none
  | .goto o => if len = 3 then (match vmTgt pc o with
    | some t => some (11, 0, 0, t, 0, [])
    | none => none) else none
  | .ifCond c o => if len = 3 then (match vmTgt pc o with
    | some t => some (12, pc + 3, 0, t, vmCn c, [])
    | none => none) else none
  | .if_icmp c o => if len = 3 then (match vmTgt pc o with
    | some t => some (13, pc + 3, 0, t, vmCn c, [])
    | none => none) else none
  | .getfield idx => if len = 3 then (match vmFind S idx with
    | some (_, 0, _, b, c, _) => some (15, pc + 3, 0, b, c, [])
    | _ => none) else none
  | .putfield idx => if len = 3 then (match vmFind S idx with
    | some (_, 0, _, b, c, _) => if b < 13 ∧ c < vmN b ∧ ((vmF b c).2.2.2 = true → isI = true ∧ (vmF b c).1 = own) then some (16, pc + 3, 0, b, c, []) else none
    | _ => none) else none
  | .arraylength => if len = 1 then some (17, pc + 1, 0, 0, 0, []) else none
  | .iaload => if len = 1 then some (18, pc + 1, 0, 0, 0, []) else none
  | .laload => if len = 1 then some (18, pc + 1, 0, 0, 1, []) else none
  | .baload => if len = 1 then some (18, pc + 1, 0, 0, 2, []) else none
  | .aaload => if len = 1 then some (18, pc + 1, 0, 0, 3, []) else none
  | .iastore => if len = 1 then some (19, pc + 1, 0, 0, 0, []) else none
  | .lastore => if len = 1 then some (19, pc + 1, 0, 0, 1, []) else none
  | .bastore => if len = 1 then some (19, pc + 1, 0, 0, 2, []) else none
  | .aastore => if len = 1 then some (20, pc + 1, 0, 0, 0, []) else none
  | .newarray t => if len = 2 then (match t with
    | .int => some (24, pc + 2, 0, 0, 0, [])
    | .long => some (24, pc + 2, 0, 1, 0, [])
    | .boolean => some (24, pc + 2, 0, 2, 0, [])
    | _ => none) else none
  | .anewarray idx => if len = 3 then (match vmFind S idx with
    | some (_, 7, _, 7, _, _) => some (24, pc + 3, 0, 3, 0, [])
    | some (_, 7, _, 8, _, _) => some (24, pc + 3, 0, 4, 0, [])
    | _ => none) else none
  | .new idx => if len = 3 then (match vmFind S idx with
    | some (_, 7, _, b, _, _) => some (25, pc + 3, 0, b, 0, [])
    | _ => none) else none
  | .invokevirtual idx => if len = 3 then (match vmFind S idx with
    | some (_, 1, _, b, c, _) => some (21, pc + 3, 1, b, c, [])
    | _ => none) else none
  | .invokespecial idx => if len = 3 then (match vmFind S idx with
    | some (_, 2, _, b, c, _) => some (21, pc + 3, 2, b, c, [])
    | some (_, 3, _, b, c, _) => some (21, pc + 3, 3, b, c, [])
    | some (_, 14, _, _, _, _) => some (28, pc + 3, 0, 0, 0, [])
    | _ => none) else none
  | .invokestatic idx => if len = 3 then (match vmFind S idx with
    | some (_, 4, _, b, c, _) => some (21, pc + 3, 4, b, c, [])
    | some (_, 5, _, b, c, _) => some (21, pc + 3, 5, b, c, [])
    | some (_, 15, _, _, _, _) => some (27, pc + 3, 0, 0, 0, [])
    | some (_, 18, _, _, c, _) => some (29, pc + 3, 0, 0, c, [])
    | _ => none) else none
  | .return_ => if len = 1 then some (22, 0, 0, 0, 0, []) else none
  | .ireturn => if len = 1 then some (22, 0, 0, 0, 1, []) else none
  | .lreturn => if len = 1 then some (22, 0, 0, 0, 2, []) else none
  | _ => none
/-- the entries that are made otherwise: dup2, pop2 by what lies there; switches; a throw -/
def vmTransX (S : List vmS) (cc : ByteArray) (pc : Nat) (i : Instr) (len : Nat) (e : vmE) : Bool :=
  match i with
  | .dup2 => decide (len = 1) && (vmEq e (10, pc + 1, 0, 0, 1, []) || vmEq e (10, pc + 1, 0, 0, 2, []))
  | .pop2 => decide (len = 1) && vmEq e (10, pc + 1, 0, 0, 4, [])
  | .tableswitch dflt lo hi offs => decide (hi = lo + (offs.size : Int) - 1) && (offs.toList.all fun o => decide (0 ≤ (pc : Int) + o)) && decide (0 ≤ (pc : Int) + dflt) && vmEq e (14, 0, 0, ((pc : Int) + dflt).toNat, 0, vmSw pc lo offs.toList)
  | .lookupswitch dflt ps => ((ps.toList.zip (ps.toList.drop 1)).all fun q => decide (q.1.1 < q.2.1)) && (ps.toList.all fun q => decide (0 ≤ (pc : Int) + q.2)) && decide (0 ≤ (pc : Int) + dflt) && vmEq e (14, 0, 0, ((pc : Int) + dflt).toNat, 0, vmSwP pc ps.toList)
  | .new ik => decide (len = 3) && (match decode cc (pc + 3), decode cc (pc + 4), decode cc (pc + 7) with
    | .ok (.dup, 1), .ok (.invokespecial ic, 3), .ok (.athrow, 1) => (match vmFind S ik, vmFind S ic with
      | some (_, 8, _, b, _, _), some (_, 16, _, b', _, _) => decide (b = b') && decide (b < 4) && vmEq e (23, 0, 0, b, 0, [])
      | _, _ => false)
    | _, _, _ => false)
  | _ => false
def vmOkE (S : List vmS) (own : String) (isI : Bool) (cc : ByteArray) (pc : Nat) (e : vmE) : Bool :=
  match decode cc pc with
  | .ok (i, len) => (match vmTrans S own isI pc i len with
    | some e' => vmEq e' e
    | none => false) || vmTransX S cc pc i len e
  | .error _ => false
def vmOkL (S : List vmS) (own : String) (isI : Bool) (cc : ByteArray) : Nat → List (Option vmE) → Bool
  | _, [] => true
  | pc, none :: r => vmOkL S own isI cc (pc + 1) r
  | pc, some e :: r => vmOkE S own isI cc pc e && vmOkL S own isI cc (pc + 1) r
def vmAt (l : List (Option vmE)) (pc : Nat) : Option vmE := match l[pc]? with
  | some e => e
  | none => none
theorem vmOkL_at {S : List vmS} {own : String} {isI : Bool} {cc : ByteArray} : ∀ (l : List (Option vmE)) (p0 : Nat), vmOkL S own isI cc p0 l = true → ∀ (k : Nat) (e : vmE), l[k]? = some (some e) → vmOkE S own isI cc (p0 + k) e = true := by
  intro l
  induction l with
  | nil => intro p0 _ k e h; simp at h
  | cons x r ih =>
    intro p0 h k e he
    cases k with
    | zero =>
      simp at he
      subst he
      simp [vmOkL] at h
      exact h.1
    | succ k =>
      simp at he
      have h2 : vmOkL S own isI cc (p0 + 1) r = true := by
        cases x with
        | none => exact h
        | some e0 => simp [vmOkL] at h; exact h.2
      have := ih (p0 + 1) h2 k e he
      rwa [show p0 + 1 + k = p0 + (k + 1) by omega] at this
theorem vmOk_at {S : List vmS} {own : String} {isI : Bool} {cc : ByteArray} {l : List (Option vmE)} (h : vmOkL S own isI cc 0 l = true) {pc : Nat} {e : vmE} (he : vmAt l pc = some e) : vmOkE S own isI cc pc e = true := by
  unfold vmAt at he
  split at he
  · rename_i x hx
    subst he
    have := vmOkL_at l 0 h pc e hx
    rwa [Nat.zero_add] at this
  · cases he
/-- of two pieces -/
theorem vmOkL_app {S : List vmS} {own : String} {isI : Bool} {cc : ByteArray} : ∀ (l r : List (Option vmE)) (p0 : Nat), vmOkL S own isI cc p0 l = true → vmOkL S own isI cc (p0 + l.length) r = true → vmOkL S own isI cc p0 (l ++ r) = true := by
  intro l
  induction l with
  | nil => intro r p0 _ h; simpa using h
  | cons x l ih =>
    intro r p0 h1 h2
    have h3 : vmOkL S own isI cc (p0 + 1 + l.length) r = true := by rwa [show p0 + 1 + l.length = p0 + (x :: l).length by simp; omega]
    cases x with
    | none => exact ih r (p0 + 1) h1 h3
    | some e0 =>
      simp [vmOkL] at h1 ⊢
      exact ⟨h1.1, ih r (p0 + 1) h1.2 h3⟩
