/-! ANY OPCODE -/
theorem q_no_call {md id nx : Nat} {ops : List Instr} {ls st : List q_V} {g : q_G} {M : q_M} {c' : q_C} (h : q_op md (.invokestatic id) nx ops ls st g M = some (.inl c')) : False := by
  obtain ⟨-, h2⟩ := q_if_inv (show (if _ then _ else none) = _ from h)
  cases h2
section ALL
variable {p : Program} {l : Launch} {e : Env} {R : Room} {s : State} {m : MethodId} {args : Array Value} {below : List Frame} {meth : Method} {c : Code} {cc : ByteArray} {D : va_G} {C : q_CI} {b L : Nat} {xs : Nat → Int32} {adK adV : Nat → Nat} {sb md d ow nL : Nat} {rt : Option FieldType} {ini : Bool} {k0 k1 : Nat} {Qz : State → Prop} {nx : Nat} {ops : List Instr} {n0 : Nat}
  {ls st : List q_V} {g : q_G} {M : q_M} {ad : Nat → Nat} {H : Heap} {locs : List Loc} {lsr : Array Slot} {str : List Value} {cells slots pc len : Nat} {op : Instr} {c' : q_C}
theorem q_sd_all {raw : Instr} (hB : q_B p l e R s m args below meth c cc D C b L xs adK adV sb md d ow nL rt ini k0 k1 ls st g M ad H locs lsr str cells slots pc len raw) (hrs : q_rs ow rt ini pc raw len = some op) (hres : q_op md op nx ops ls st g M = some (.inl c')) (hK : q_Kt p l e R s m args below meth c D C b L xs adK adV sb md nL k0 k1 Qz nx ops g.1 ad pc len c') (hl9 : c'.2.2.2.2.1.1 ≤ 1000000 ∧ c'.2.2.2.2.1.1 ≤ k0 + R.cells ∧ c'.2.2.2.2.1.2 ≤ k1 + R.slots)  : W p l e R s m args below meth c H locs cells slots Qz (F0 m pc lsr str) := by
  cases raw
  case iconst => exact q_sd_iconst hB hrs hres hK
  case bipush => exact q_sd_bipush hB hrs hres hK
  case sipush => exact q_sd_sipush hB hrs hres hK
  case lconst => exact q_sd_lconst hB hrs hres hK
  case iadd => exact q_sd_iadd hB hrs hres hK
  case isub => exact q_sd_isub hB hrs hres hK
  case imul => exact q_sd_imul hB hrs hres hK
  case iand => exact q_sd_iand hB hrs hres hK
  case ior => exact q_sd_ior hB hrs hres hK
  case ishl => exact q_sd_ishl hB hrs hres hK
  case ishr => exact q_sd_ishr hB hrs hres hK
  case idiv => exact q_sd_idiv hB hrs hres hK
  case irem => exact q_sd_irem hB hrs hres hK
  case ladd => exact q_sd_ladd hB hrs hres hK
  case lmul => exact q_sd_lmul hB hrs hres hK
  case ldiv => exact q_sd_ldiv hB hrs hres hK
  case lrem => exact q_sd_lrem hB hrs hres hK
  case ineg => exact q_sd_ineg hB hrs hres hK
  case i2b => exact q_sd_i2b hB hrs hres hK
  case i2s => exact q_sd_i2s hB hrs hres hK
  case i2c => exact q_sd_i2c hB hrs hres hK
  case i2l => exact q_sd_i2l hB hrs hres hK
  case l2i => exact q_sd_l2i hB hrs hres hK
  case iload_n => exact q_sd_iload_n hB hrs hres hK
  case iload => exact q_sd_iload hB hrs hres hK
  case lload_n => exact q_sd_lload_n hB hrs hres hK
  case lload => exact q_sd_lload hB hrs hres hK
  case aload_n => exact q_sd_aload_n hB hrs hres hK
  case aload => exact q_sd_aload hB hrs hres hK
  case istore_n => exact q_sd_istore_n hB hrs hres hK
  case istore => exact q_sd_istore hB hrs hres hK
  case lstore_n => exact q_sd_lstore_n hB hrs hres hK
  case lstore => exact q_sd_lstore hB hrs hres hK
  case astore_n => exact q_sd_astore_n hB hrs hres hK
  case astore => exact q_sd_astore hB hrs hres hK
  case iinc => exact q_sd_iinc hB hrs hres hK
  case pop => exact q_sd_pop hB hrs hres hK
  case pop2 => exact q_sd_pop2 hB hrs hres hK
  case dup => exact q_sd_dup hB hrs hres hK
  case dup2 => exact q_sd_dup2 hB hrs hres hK
  case lcmp => exact q_sd_lcmp hB hrs hres hK
  case ifCond => exact q_sd_ifCond hB hrs hres hK
  case if_icmp => exact q_sd_if_icmp hB hrs hres hK
  case goto => exact q_sd_goto hB hrs hres hK
  case tableswitch => exact q_sd_tableswitch hB hrs hres hK
  case lookupswitch => exact q_sd_lookupswitch hB hrs hres hK
  case ldc => exact q_sd_ldc hB hrs hres hK
  case ldc_w => exact q_sd_ldc_w hB hrs hres hK
  case ldc2_w => exact q_sd_ldc2_w hB hrs hres hK
  case getfield => exact q_sd_getfield hB hrs hres hK
  case getstatic => exact q_sd_getstatic hB hrs hres hK
  case putfield => exact q_sd_putfield hB hrs hres hK
  case iaload => exact q_sd_iaload hB hrs hres hK
  case iastore => exact q_sd_iastore hB hrs hres hK
  case arraylength => exact q_sd_arraylength hB hrs hres hK
  case baload => exact q_sd_baload hB hrs hres hK
  case aaload => exact q_sd_aaload hB hrs hres hK
  case aastore => exact q_sd_aastore hB hrs hres hK
  case checkcast => exact q_sd_nop hB hrs hres hK
  case new => exact q_sd_new hB hrs hres hK hl9
  case anewarray => exact q_sd_anewarray hB hrs hres hK hl9
  case newarray t =>
    cases t
    case int => exact q_sd_newarray hB hrs hres hK hl9
    all_goals (exfalso; have h9 : (none : Option Instr) = some op := hrs; cases h9)
  case multianewarray => exact q_sd_mna hB hrs hres hK hl9
  case invokevirtual i =>
    by_cases h : ow = 1 ∧ i = 53
    · obtain ⟨h1, rfl⟩ := h
      exact q_sd_clone hB hrs hres hK hl9 h1
    · exfalso
      obtain ⟨-, h2⟩ := q_if_inv hrs
      rw [if_neg h] at h2
      split at h2
      · obtain ⟨-, h3⟩ := q_if_inv h2
        cases h3
        exact q_no_call hres
      · cases h2
  case invokespecial i =>
    by_cases h : q_otab.contains (ow, i) = true
    · exact q_sd_objInit hB hrs hres hK h
    · exfalso
      obtain ⟨-, h2⟩ := q_if_inv hrs
      rw [if_neg h] at h2
      split at h2
      · cases h2
        exact q_no_call hres
      · split at h2
        · cases h2
          exact q_no_call hres
        · split at h2
          · obtain ⟨-, h3⟩ := q_if_inv h2
            cases h3
            exact q_no_call hres
          · cases h2
  case invokestatic i =>
    by_cases h : q_atab.contains (ow, i) = true
    · exact q_sd_arraycopy hB hrs hres hK h
    · exfalso
      obtain ⟨-, h2⟩ := q_if_inv hrs
      rw [if_neg h] at h2
      split at h2
      · obtain ⟨-, h3⟩ := q_if_inv h2
        cases h3
        exact q_no_call hres
      · cases h2
  case ireturn =>
    exfalso
    obtain ⟨-, h2⟩ := q_if_inv hrs
    split at h2
    · cases h2
      simp only [q_op] at hres
      split at hres
      · obtain ⟨-, h3⟩ := q_if_inv hres
        cases h3
      · cases hres
    · cases h2
  case lreturn =>
    exfalso
    obtain ⟨-, h2⟩ := q_if_inv hrs
    cases h2
    simp only [q_op] at hres
    split at hres <;> cases hres
  case areturn =>
    exfalso
    obtain ⟨-, h2⟩ := q_if_inv hrs
    cases h2
    simp only [q_op] at hres
    split at hres <;> cases hres
  case return_ =>
    exfalso
    obtain ⟨-, h2⟩ := q_if_inv hrs
    cases h2
    simp only [q_op] at hres
    split at hres <;> cases hres
  all_goals (exfalso; have h9 : (none : Option Instr) = some op := hrs; cases h9)
end ALL
