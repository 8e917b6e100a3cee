/-! WHAT A METHOD FINDS: the classes, the literals, the script, the statics -/
def q_tys (C : q_CI) : List (ClassId × FieldType) := [(C.1, .int), (C.2.1, .array .int), (C.2.2.1, .object RX3), (C.2.2.2, .object RX2)]
def q_lit (j : Nat) : String := match j with
  | 0 => "likes 99 - far ; wants weight ; goes 9 ;"
  | 1 => "likes"
  | 2 => "wants"
  | 3 => "goes"
  | 4 => "or"
  | 5 => "and"
  | 6 => "not"
  | 7 => "far"
  | 8 => "vain"
  | 9 => "built"
  | 10 => "weight"
  | 11 => "year"
  | _ => "more"
def q_lenJ : List Nat := q_strs.map List.length
def q_bytJ : List (List Int32) := q_strs.map fun l => l.map Int32.ofInt
def q_A (sb : Nat) : Nat → Prop := fun q => sb ≤ q
def q_Env (D : va_G) (C : q_CI) (b L : Nat) (xs : Nat → Int32) (adK adV : Nat → Nat) (sb : Nat) (U : State) : Prop :=
  va_K D vwCl (q_tys C) U ∧ vk_S 13 q_lenJ q_bytJ adK adV (q_A sb) U U.heap ∧ va_X b L xs U U.heap ∧ (b < U.heap.size ∧ b < sb ∧ sb ≤ U.heap.size) ∧
  va_Z "java/lang/String" "COMPACT_STRINGS" "Z" (.int 1) (q_A sb) U U.heap ∧ va_Zq "jdk/internal/util/Preconditions" "SIOOBE_FORMATTER" "Ljava/util/function/BiFunction;" (q_A sb) U U.heap ∧
  (∀ e ∈ q_stab, vk_R (q_cls e.1) e.2.1 (q_lit e.2.2) (adK e.2.2) U) ∧
  va_Nw (.methodLinkNest RX5 11 yX1_init RX5) U ∧ va_Nw (.methodLinkNest RX5 73 yX2_init RX5) U ∧ va_Nw (.castable "[I" "java/lang/Cloneable") U ∧ va_AO RX3 U ∧ va_AO RX2 U ∧ (Cond.arrayOver (.array .int)).before #[] U = true
theorem q_Env_moved {D : va_G} {C : q_CI} {b L : Nat} {xs : Nat → Int32} {adK adV : Nat → Nat} {sb : Nat} {s U : State} (h : q_Env D C b L xs adK adV sb s) (hW : s.WarmedH U.vm) (hq : ∀ a : Nat, a < s.heap.size → ¬ q_A sb a → U.heap[a]? = s.heap[a]?) (hz : s.heap.size ≤ U.heap.size) : q_Env D C b L xs adK adV sb U := by
  obtain ⟨h1, h2, h3, ⟨h4, h5, h6⟩, h7, h8, h9, h10, h11, h12, h13, h14, h15⟩ := h
  have hal := hW.alike
  exact ⟨va_K.moved hal h1, (vk_S.moved hal h2).kept hq, (va_X.moved hal h3).kept (hq b h4 (Nat.not_le.mpr h5)), ⟨Nat.lt_of_lt_of_le h4 hz, h5, Nat.le_trans h6 hz⟩, (va_Z.moved hal h7).kept hq, (va_Zq.moved hal h8).kept hq,
    fun e he => (h9 e he).warm hW, h10.warmM hW, h11.warmM hW, h12.warmC hW, h13.moved hal, h14.moved hal, over_moved hal h15⟩
