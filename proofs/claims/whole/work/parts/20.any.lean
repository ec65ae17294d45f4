/-! ===== any step that is no call, no return, no throw ===== -/
section VMA
variable {κ : vmK} {p : Program} {l : Launch} {e : Env} {R : Room} {s : State} {m : MethodId} {args : Array Value} {below : List Frame} {meth : Method} {c : Code} {Q : State → Prop} {n0 s0 : Nat} {cc : ByteArray} {own : String} {isI : Bool} {S : List vmS} {pc pc' len : Nat} {en : vmE} {L L' st st' : List Value} {h h' : vmH}
theorem vm_any (hC : vmCx κ p R s m args meth c cc own isI S) (hok : vmOkE S own isI cc pc en = true) (hop : en.1 ≠ 21 ∧ en.1 ≠ 22 ∧ en.1 ≠ 23) (hst : vmStep en L st h = some (pc', L', st', h'))
    (hn : n0 ≤ h.1) (hs : s0 ≤ h.2.1) (hc0 : h.1 - n0 ≤ R.cells) (hsl0 : h.2.1 - s0 ≤ R.slots) (hc : h'.1 - n0 ≤ R.cells) (hsl : h'.2.1 - s0 ≤ R.slots) (hsz : h.2.2.1 = true → s.heap.size ≤ κ.1 + n0)
    (k : vmW κ p l e R s m args below meth c Q n0 s0 h' pc' L' st') : vmW κ p l e R s m args below meth c Q n0 s0 h pc L st := by
  unfold vmOkE at hok
  split at hok
  · rename_i i len hd
    rw [Bool.or_eq_true] at hok
    rcases hok with hok | hok
    · split at hok
      · rename_i e1 ht
        have he := vmEq_eq hok
        subst he
        cases i
        case iconst n => exact vs_iconst hC hd ht hst k
        case bipush n => exact vs_bipush hC hd ht hst k
        case sipush n => exact vs_sipush hC hd ht hst k
        case lconst n => exact vs_lconst hC hd ht hst k
        case ldc n => exact vs_ldc hC hd ht hst k
        case ldc_w n => exact vs_ldc_w hC hd ht hst k
        case ldc2_w n => exact vs_ldc2_w hC hd ht hst k
        case getstatic n => exact vs_getstatic hC hd ht hst k
        case iload n => exact vs_iload hC hd ht hst k
        case iload_n n => exact vs_iload_n hC hd ht hst k
        case istore n => exact vs_istore hC hd ht hst k
        case istore_n n => exact vs_istore_n hC hd ht hst k
        case lload n => exact vs_lload hC hd ht hst k
        case lload_n n => exact vs_lload_n hC hd ht hst k
        case lstore n => exact vs_lstore hC hd ht hst k
        case lstore_n n => exact vs_lstore_n hC hd ht hst k
        case aload n => exact vs_aload hC hd ht hst k
        case aload_n n => exact vs_aload_n hC hd ht hst k
        case astore n => exact vs_astore hC hd ht hst k
        case astore_n n => exact vs_astore_n hC hd ht hst k
        case iinc a b => exact vs_iinc hC hd ht hst k
        case iadd => exact vs_iadd hC hd ht hst k
        case isub => exact vs_isub hC hd ht hst k
        case imul => exact vs_imul hC hd ht hst k
        case iand => exact vs_iand hC hd ht hst k
        case ior => exact vs_ior hC hd ht hst k
        case ixor => exact vs_ixor hC hd ht hst k
        case idiv => exact vs_idiv hC hd ht hst k
        case irem => exact vs_irem hC hd ht hst k
        case ishl => exact vs_ishl hC hd ht hst k
        case ishr => exact vs_ishr hC hd ht hst k
        case iushr => exact vs_iushr hC hd ht hst k
        case ladd => exact vs_ladd hC hd ht hst k
        case lsub => exact vs_lsub hC hd ht hst k
        case lmul => exact vs_lmul hC hd ht hst k
        case land => exact vs_land hC hd ht hst k
        case lor => exact vs_lor hC hd ht hst k
        case lxor => exact vs_lxor hC hd ht hst k
        case ldiv => exact vs_ldiv hC hd ht hst k
        case lrem => exact vs_lrem hC hd ht hst k
        case lshl => exact vs_lshl hC hd ht hst k
        case lshr => exact vs_lshr hC hd ht hst k
        case lushr => exact vs_lushr hC hd ht hst k
        case i2l => exact vs_i2l hC hd ht hst k
        case l2i => exact vs_l2i hC hd ht hst k
        case i2b => exact vs_i2b hC hd ht hst k
        case i2s => exact vs_i2s hC hd ht hst k
        case i2c => exact vs_i2c hC hd ht hst k
        case lcmp => exact vs_lcmp hC hd ht hst k
        case dup => exact vs_dup hC hd ht hst k
        case pop => exact vs_pop hC hd ht hst k
        case goto o => exact vs_goto hC hd ht hst k
        case ifCond cd o => exact vs_ifCond hC hd ht hst k
        case if_icmp cd o => exact vs_if_icmp hC hd ht hst k
        case getfield n => exact vs_getfield hC hd ht hst k
        case putfield n => exact vs_putfield hC hd ht hst k
        case arraylength => exact vs_arraylength hC hd ht hst k
        case iaload => exact vs_iaload hC hd ht hst k
        case laload => exact vs_laload hC hd ht hst k
        case baload => exact vs_baload hC hd ht hst k
        case aaload => exact vs_aaload hC hd ht hst k
        case iastore => exact vs_iastore hC hd ht hst k
        case lastore => exact vs_lastore hC hd ht hst k
        case bastore => exact vs_bastore hC hd ht hst k
        case aastore => exact vs_aastore hC hd ht hst k
        case newarray t => exact vs_newarray hC hd ht hst hn hs hc hsl hsz k
        case anewarray n => exact vs_anewarray hC hd ht hst hn hs hc hsl hsz k
        case new n => exact vs_new hC hd ht hst hn hs hc hsl hsz k
        case invokevirtual n =>
          simp only [vmTrans] at ht
          split at ht
          · split at ht
            · cases ht; exact absurd rfl hop.1
            · cases ht
          · cases ht
        case invokespecial n =>
          simp only [vmTrans] at ht
          split at ht
          · rename_i hl
            subst hl
            split at ht
            · cases ht; exact absurd rfl hop.1
            · cases ht; exact absurd rfl hop.1
            · rename_i hf
              cases ht
              exact vs_objInit hC hd hf hst k
            · cases ht
          · cases ht
        case invokestatic n =>
          simp only [vmTrans] at ht
          split at ht
          · rename_i hl
            subst hl
            split at ht
            · cases ht; exact absurd rfl hop.1
            · cases ht; exact absurd rfl hop.1
            · rename_i hf
              cases ht
              exact vs_arraycopy hC hd hf hst k
            · rename_i hf
              cases ht
              exact vs_math hC hd hf hst hc0 hsl0 k
            · cases ht
          · cases ht
        case return_ => simp only [vmTrans] at ht; split at ht <;> cases ht; exact absurd rfl hop.2.1
        case ireturn => simp only [vmTrans] at ht; split at ht <;> cases ht; exact absurd rfl hop.2.1
        case lreturn => simp only [vmTrans] at ht; split at ht <;> cases ht; exact absurd rfl hop.2.1
        all_goals (simp only [vmTrans, reduceCtorEq] at ht)
      · cases hok
    · cases i
      case dup2 => exact vs_dup2 hC hd hok hst k
      case pop2 => exact vs_pop2 hC hd hok hst k
      case tableswitch a b d o => exact vs_tableswitch hC hd hok hst k
      case lookupswitch a b => exact vs_lookupswitch hC hd hok hst k
      case new n =>
        simp only [vmTransX, Bool.and_eq_true] at hok
        obtain ⟨-, h2⟩ := hok
        split at h2
        · split at h2
          · simp only [Bool.and_eq_true] at h2
            have := vmEq_eq h2.2
            subst this
            exact absurd rfl hop.2.2
          · cases h2
        · cases h2
      all_goals (simp only [vmTransX, Bool.false_eq_true] at hok)
  · cases hok
end VMA
