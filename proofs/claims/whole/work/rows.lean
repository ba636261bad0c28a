section
-- ===== PART A: goes FIRST, ahead of the names: the tables' words, and 'selects' of the private methods out of them =====
/-- a private method of a class that the tables say can be made, by its rows of tables_1 -/
def lw_okq (q : MethodName × Nat) : Prop := (q.1.cls ≠ "java/lang/invoke/MethodHandle" ∧ q.1.cls ≠ "java/lang/invoke/VarHandle") ∧ Cond.instantiable q.1.cls q.2 ∈ tables_1 ∧ Cond.privateMethod q.1 ∈ tables_1 ∧ Cond.instanceMethod q.1 ∈ tables_1
theorem lw_p0 : lw_okq (⟨"InjectorTree", "isInjector", "(I)Z"⟩, 9) := ⟨⟨by decide +kernel, by decide +kernel⟩, List.mem_of_getElem? (i := 11) (by decide +kernel), List.mem_of_getElem? (i := 75) (by decide +kernel), List.mem_of_getElem? (i := 76) (by decide +kernel)⟩
theorem lw_p1 : lw_okq (⟨"InjectorTree$Needs", "append", "(IZ)V"⟩, 3) := ⟨⟨by decide +kernel, by decide +kernel⟩, List.mem_of_getElem? (i := 21) (by decide +kernel), List.mem_of_getElem? (i := 86) (by decide +kernel), List.mem_of_getElem? (i := 87) (by decide +kernel)⟩
theorem lw_p2 : lw_okq (⟨"InjectorTree", "isUnbound", "(II)Z"⟩, 9) := ⟨⟨by decide +kernel, by decide +kernel⟩, List.mem_of_getElem? (i := 11) (by decide +kernel), List.mem_of_getElem? (i := 98) (by decide +kernel), List.mem_of_getElem? (i := 99) (by decide +kernel)⟩
theorem lw_p3 : lw_okq (⟨"InjectorTree", "isPair", "(II)Z"⟩, 9) := ⟨⟨by decide +kernel, by decide +kernel⟩, List.mem_of_getElem? (i := 11) (by decide +kernel), List.mem_of_getElem? (i := 102) (by decide +kernel), List.mem_of_getElem? (i := 103) (by decide +kernel)⟩
theorem lw_p4 : lw_okq (⟨"InjectorTree", "countKept", "(I)I"⟩, 9) := ⟨⟨by decide +kernel, by decide +kernel⟩, List.mem_of_getElem? (i := 11) (by decide +kernel), List.mem_of_getElem? (i := 172) (by decide +kernel), List.mem_of_getElem? (i := 173) (by decide +kernel)⟩
theorem lw_p5 : lw_okq (⟨"InjectorTree", "obtainFromOutside", "(II)J"⟩, 9) := ⟨⟨by decide +kernel, by decide +kernel⟩, List.mem_of_getElem? (i := 11) (by decide +kernel), List.mem_of_getElem? (i := 181) (by decide +kernel), List.mem_of_getElem? (i := 182) (by decide +kernel)⟩
theorem lw_p6 : lw_okq (⟨"InjectorTree", "obtain", "(III)J"⟩, 9) := ⟨⟨by decide +kernel, by decide +kernel⟩, List.mem_of_getElem? (i := 11) (by decide +kernel), List.mem_of_getElem? (i := 185) (by decide +kernel), List.mem_of_getElem? (i := 186) (by decide +kernel)⟩
theorem lw_p7 : lw_okq (⟨"InjectorTree", "seenFrom", "(II)LInjectorTree$Binding;"⟩, 9) := ⟨⟨by decide +kernel, by decide +kernel⟩, List.mem_of_getElem? (i := 11) (by decide +kernel), List.mem_of_getElem? (i := 189) (by decide +kernel), List.mem_of_getElem? (i := 190) (by decide +kernel)⟩
theorem lw_p8 : lw_okq (⟨"InjectorTree", "obtainNew", "(LInjectorTree$Binding;I)J"⟩, 9) := ⟨⟨by decide +kernel, by decide +kernel⟩, List.mem_of_getElem? (i := 11) (by decide +kernel), List.mem_of_getElem? (i := 196) (by decide +kernel), List.mem_of_getElem? (i := 197) (by decide +kernel)⟩
theorem lw_p9 : lw_okq (⟨"InjectorTree", "makeInstance", "(LInjectorTree$Binding;I)I"⟩, 9) := ⟨⟨by decide +kernel, by decide +kernel⟩, List.mem_of_getElem? (i := 11) (by decide +kernel), List.mem_of_getElem? (i := 209) (by decide +kernel), List.mem_of_getElem? (i := 210) (by decide +kernel)⟩
theorem lw_p10 : lw_okq (⟨"InjectorTree", "unmakeFrom", "(I)V"⟩, 9) := ⟨⟨by decide +kernel, by decide +kernel⟩, List.mem_of_getElem? (i := 11) (by decide +kernel), List.mem_of_getElem? (i := 216) (by decide +kernel), List.mem_of_getElem? (i := 217) (by decide +kernel)⟩
theorem lw_p11 : lw_okq (⟨"InjectorTree", "makerOf", "(I)LInjectorTree$Binding;"⟩, 9) := ⟨⟨by decide +kernel, by decide +kernel⟩, List.mem_of_getElem? (i := 11) (by decide +kernel), List.mem_of_getElem? (i := 224) (by decide +kernel), List.mem_of_getElem? (i := 225) (by decide +kernel)⟩
theorem lw_p12 : lw_okq (⟨"InjectorTree", "wouldFail", "(II)Z"⟩, 9) := ⟨⟨by decide +kernel, by decide +kernel⟩, List.mem_of_getElem? (i := 11) (by decide +kernel), List.mem_of_getElem? (i := 243) (by decide +kernel), List.mem_of_getElem? (i := 244) (by decide +kernel)⟩
theorem lw_p13 : lw_okq (⟨"InjectorTree", "nextPairs", "(II)J"⟩, 9) := ⟨⟨by decide +kernel, by decide +kernel⟩, List.mem_of_getElem? (i := 11) (by decide +kernel), List.mem_of_getElem? (i := 258) (by decide +kernel), List.mem_of_getElem? (i := 259) (by decide +kernel)⟩
theorem lw_p14 : lw_okq (⟨"InjectorTree", "countBindings", "()I"⟩, 9) := ⟨⟨by decide +kernel, by decide +kernel⟩, List.mem_of_getElem? (i := 11) (by decide +kernel), List.mem_of_getElem? (i := 273) (by decide +kernel), List.mem_of_getElem? (i := 274) (by decide +kernel)⟩
theorem lw_p15 : lw_okq (⟨"InjectorTreeModel", "bind", "(IIII)I"⟩, 28) := ⟨⟨by decide +kernel, by decide +kernel⟩, List.mem_of_getElem? (i := 277) (by decide +kernel), List.mem_of_getElem? (i := 384) (by decide +kernel), List.mem_of_getElem? (i := 385) (by decide +kernel)⟩
def lw_privs_1 : List (MethodName × Nat) := [(⟨"InjectorTree", "isInjector", "(I)Z"⟩, 9), (⟨"InjectorTree$Needs", "append", "(IZ)V"⟩, 3), (⟨"InjectorTree", "isUnbound", "(II)Z"⟩, 9), (⟨"InjectorTree", "isPair", "(II)Z"⟩, 9), (⟨"InjectorTree", "countKept", "(I)I"⟩, 9), (⟨"InjectorTree", "obtainFromOutside", "(II)J"⟩, 9), (⟨"InjectorTree", "obtain", "(III)J"⟩, 9), (⟨"InjectorTree", "seenFrom", "(II)LInjectorTree$Binding;"⟩, 9), (⟨"InjectorTree", "obtainNew", "(LInjectorTree$Binding;I)J"⟩, 9), (⟨"InjectorTree", "makeInstance", "(LInjectorTree$Binding;I)I"⟩, 9), (⟨"InjectorTree", "unmakeFrom", "(I)V"⟩, 9), (⟨"InjectorTree", "makerOf", "(I)LInjectorTree$Binding;"⟩, 9), (⟨"InjectorTree", "wouldFail", "(II)Z"⟩, 9), (⟨"InjectorTree", "nextPairs", "(II)J"⟩, 9), (⟨"InjectorTree", "countBindings", "()I"⟩, 9), (⟨"InjectorTreeModel", "bind", "(IIII)I"⟩, 28)]
theorem lw_r1 : ∀ q ∈ lw_privs_1, lw_okq q := List.forall_mem_cons.mpr ⟨lw_p0, List.forall_mem_cons.mpr ⟨lw_p1, List.forall_mem_cons.mpr ⟨lw_p2, List.forall_mem_cons.mpr ⟨lw_p3, List.forall_mem_cons.mpr ⟨lw_p4, List.forall_mem_cons.mpr ⟨lw_p5, List.forall_mem_cons.mpr ⟨lw_p6, List.forall_mem_cons.mpr ⟨lw_p7, List.forall_mem_cons.mpr ⟨lw_p8, List.forall_mem_cons.mpr ⟨lw_p9, List.forall_mem_cons.mpr ⟨lw_p10, List.forall_mem_cons.mpr ⟨lw_p11, List.forall_mem_cons.mpr ⟨lw_p12, List.forall_mem_cons.mpr ⟨lw_p13, List.forall_mem_cons.mpr ⟨lw_p14, List.forall_mem_cons.mpr ⟨lw_p15, fun _ h => absurd h List.not_mem_nil⟩⟩⟩⟩⟩⟩⟩⟩⟩⟩⟩⟩⟩⟩⟩⟩
theorem lw_p16 : lw_okq (⟨"InjectorTreeModel", "noPair", "(II)Z"⟩, 28) := ⟨⟨by decide +kernel, by decide +kernel⟩, List.mem_of_getElem? (i := 277) (by decide +kernel), List.mem_of_getElem? (i := 388) (by decide +kernel), List.mem_of_getElem? (i := 389) (by decide +kernel)⟩
theorem lw_p17 : lw_okq (⟨"InjectorTreeModel", "keepCopies", "()V"⟩, 28) := ⟨⟨by decide +kernel, by decide +kernel⟩, List.mem_of_getElem? (i := 277) (by decide +kernel), List.mem_of_getElem? (i := 421) (by decide +kernel), List.mem_of_getElem? (i := 422) (by decide +kernel)⟩
theorem lw_p18 : lw_okq (⟨"InjectorTreeModel", "gets", "(II)J"⟩, 28) := ⟨⟨by decide +kernel, by decide +kernel⟩, List.mem_of_getElem? (i := 277) (by decide +kernel), List.mem_of_getElem? (i := 425) (by decide +kernel), List.mem_of_getElem? (i := 426) (by decide +kernel)⟩
theorem lw_p19 : lw_okq (⟨"InjectorTreeModel", "begin", "(II)J"⟩, 28) := ⟨⟨by decide +kernel, by decide +kernel⟩, List.mem_of_getElem? (i := 277) (by decide +kernel), List.mem_of_getElem? (i := 429) (by decide +kernel), List.mem_of_getElem? (i := 430) (by decide +kernel)⟩
theorem lw_p20 : lw_okq (⟨"InjectorTreeModel", "seen", "(II)I"⟩, 28) := ⟨⟨by decide +kernel, by decide +kernel⟩, List.mem_of_getElem? (i := 277) (by decide +kernel), List.mem_of_getElem? (i := 433) (by decide +kernel), List.mem_of_getElem? (i := 434) (by decide +kernel)⟩
theorem lw_p21 : lw_okq (⟨"InjectorTreeModel", "working", "(I)Z"⟩, 28) := ⟨⟨by decide +kernel, by decide +kernel⟩, List.mem_of_getElem? (i := 277) (by decide +kernel), List.mem_of_getElem? (i := 439) (by decide +kernel), List.mem_of_getElem? (i := 440) (by decide +kernel)⟩
theorem lw_p22 : lw_okq (⟨"InjectorTreeModel", "work", "()J"⟩, 28) := ⟨⟨by decide +kernel, by decide +kernel⟩, List.mem_of_getElem? (i := 277) (by decide +kernel), List.mem_of_getElem? (i := 447) (by decide +kernel), List.mem_of_getElem? (i := 448) (by decide +kernel)⟩
theorem lw_p23 : lw_okq (⟨"InjectorTreeModel", "make", "(II)J"⟩, 28) := ⟨⟨by decide +kernel, by decide +kernel⟩, List.mem_of_getElem? (i := 277) (by decide +kernel), List.mem_of_getElem? (i := 452) (by decide +kernel), List.mem_of_getElem? (i := 453) (by decide +kernel)⟩
theorem lw_p24 : lw_okq (⟨"InjectorTreeModel", "took", "(JI)Z"⟩, 28) := ⟨⟨by decide +kernel, by decide +kernel⟩, List.mem_of_getElem? (i := 277) (by decide +kernel), List.mem_of_getElem? (i := 457) (by decide +kernel), List.mem_of_getElem? (i := 458) (by decide +kernel)⟩
theorem lw_p25 : lw_okq (⟨"InjectorTreeModel", "takeBack", "(I)V"⟩, 28) := ⟨⟨by decide +kernel, by decide +kernel⟩, List.mem_of_getElem? (i := 277) (by decide +kernel), List.mem_of_getElem? (i := 461) (by decide +kernel), List.mem_of_getElem? (i := 462) (by decide +kernel)⟩
theorem lw_p26 : lw_okq (⟨"InjectorTreeModel", "noNeed", "(II)Z"⟩, 28) := ⟨⟨by decide +kernel, by decide +kernel⟩, List.mem_of_getElem? (i := 277) (by decide +kernel), List.mem_of_getElem? (i := 469) (by decide +kernel), List.mem_of_getElem? (i := 470) (by decide +kernel)⟩
def lw_privs_2 : List (MethodName × Nat) := [(⟨"InjectorTreeModel", "noPair", "(II)Z"⟩, 28), (⟨"InjectorTreeModel", "keepCopies", "()V"⟩, 28), (⟨"InjectorTreeModel", "gets", "(II)J"⟩, 28), (⟨"InjectorTreeModel", "begin", "(II)J"⟩, 28), (⟨"InjectorTreeModel", "seen", "(II)I"⟩, 28), (⟨"InjectorTreeModel", "working", "(I)Z"⟩, 28), (⟨"InjectorTreeModel", "work", "()J"⟩, 28), (⟨"InjectorTreeModel", "make", "(II)J"⟩, 28), (⟨"InjectorTreeModel", "took", "(JI)Z"⟩, 28), (⟨"InjectorTreeModel", "takeBack", "(I)V"⟩, 28), (⟨"InjectorTreeModel", "noNeed", "(II)Z"⟩, 28)]
theorem lw_r2 : ∀ q ∈ lw_privs_2, lw_okq q := List.forall_mem_cons.mpr ⟨lw_p16, List.forall_mem_cons.mpr ⟨lw_p17, List.forall_mem_cons.mpr ⟨lw_p18, List.forall_mem_cons.mpr ⟨lw_p19, List.forall_mem_cons.mpr ⟨lw_p20, List.forall_mem_cons.mpr ⟨lw_p21, List.forall_mem_cons.mpr ⟨lw_p22, List.forall_mem_cons.mpr ⟨lw_p23, List.forall_mem_cons.mpr ⟨lw_p24, List.forall_mem_cons.mpr ⟨lw_p25, List.forall_mem_cons.mpr ⟨lw_p26, fun _ h => absurd h List.not_mem_nil⟩⟩⟩⟩⟩⟩⟩⟩⟩⟩⟩
def lw_privs : List (MethodName × Nat) := lw_privs_1 ++ (lw_privs_2)
def lw_tbl : List Cond := k2_sels lw_privs ++ tables_1
theorem lw_privs_ok : ∀ q ∈ lw_privs, lw_okq q := by
  show ∀ q ∈ lw_privs_1 ++ (lw_privs_2), lw_okq q
  exact List.forall_mem_append.mpr ⟨lw_r1, lw_r2⟩
end
section
/-! NAMES, by an own program out of the listing and the tables -/
def R_B : String := "InjectorTree$Binding"
def T_B : u_T := fun k => match k with
  | 0 => ("InjectorTree$Binding", "kind", "LInjectorTree$Kind;", true)
  | 1 => ("InjectorTree$Binding", "injector", "I", true)
  | 2 => ("InjectorTree$Binding", "key", "I", true)
  | 3 => ("InjectorTree$Binding", "constant", "I", true)
  | 4 => ("InjectorTree$Binding", "scope", "I", true)
  | 5 => ("InjectorTree$Binding", "needs", "LInjectorTree$Needs;", true)
  | 6 => ("InjectorTree$Binding", "kept", "I", false)
  | _ => ("InjectorTree$Binding", "inWork", "Z", false)
def t_B : Nat → FieldType := fun k => match k with
  | 0 => .object "InjectorTree$Kind"
  | 1 => .int
  | 2 => .int
  | 3 => .int
  | 4 => .int
  | 5 => .object "InjectorTree$Needs"
  | 6 => .int
  | _ => .boolean
theorem nm_B : ∀ a, a < 8 → ∀ b, b < 8 → a ≠ b → (T_B a).2.1 ≠ (T_B b).2.1 := by decide +kernel
theorem tk_B : ∀ k, k < 8 → parseFieldDescriptor (T_B k).2.2.1 = some (t_B k) := by decide +kernel
def R_N : String := "InjectorTree$Needs"
def T_N : u_T := fun k => match k with
  | 0 => ("InjectorTree$Needs", "keys", "[I", true)
  | 1 => ("InjectorTree$Needs", "lazy", "[Z", true)
  | _ => ("InjectorTree$Needs", "size", "I", false)
def t_N : Nat → FieldType := fun k => match k with
  | 0 => .array .int
  | 1 => .array .boolean
  | _ => .int
theorem nm_N : ∀ a, a < 3 → ∀ b, b < 3 → a ≠ b → (T_N a).2.1 ≠ (T_N b).2.1 := by decide +kernel
theorem tk_N : ∀ k, k < 3 → parseFieldDescriptor (T_N k).2.2.1 = some (t_N k) := by decide +kernel
def R_X : String := "InjectorTree"
def T_X : u_T := fun k => match k with
  | 0 => ("InjectorTree", "parents", "[I", true)
  | 1 => ("InjectorTree", "bindings", "[LInjectorTree$Binding;", true)
  | 2 => ("InjectorTree", "makers", "[LInjectorTree$Binding;", true)
  | 3 => ("InjectorTree", "values", "[J", true)
  | 4 => ("InjectorTree", "gathered", "[J", true)
  | 5 => ("InjectorTree", "buffer", "LInjectorTree$Needs;", false)
  | 6 => ("InjectorTree", "injectors", "I", false)
  | 7 => ("InjectorTree", "made", "I", false)
  | _ => ("InjectorTree", "requestOpen", "Z", false)
def t_X : Nat → FieldType := fun k => match k with
  | 0 => .array .int
  | 1 => .array (.object "InjectorTree$Binding")
  | 2 => .array (.object "InjectorTree$Binding")
  | 3 => .array .long
  | 4 => .array .long
  | 5 => .object "InjectorTree$Needs"
  | 6 => .int
  | 7 => .int
  | _ => .boolean
theorem nm_X : ∀ a, a < 9 → ∀ b, b < 9 → a ≠ b → (T_X a).2.1 ≠ (T_X b).2.1 := by decide +kernel
theorem tk_X : ∀ k, k < 9 → parseFieldDescriptor (T_X k).2.2.1 = some (t_X k) := by decide +kernel
def R_M : String := "InjectorTreeModel"
def T_M : u_T := fun k => match k with
  | 0 => ("InjectorTreeModel", "parent", "[I", true)
  | 1 => ("InjectorTreeModel", "injectors", "I", false)
  | 2 => ("InjectorTreeModel", "bufKey", "[I", true)
  | 3 => ("InjectorTreeModel", "bufLazy", "[Z", true)
  | 4 => ("InjectorTreeModel", "buffered", "I", false)
  | 5 => ("InjectorTreeModel", "kind", "[I", true)
  | 6 => ("InjectorTreeModel", "number", "[I", true)
  | 7 => ("InjectorTreeModel", "scope", "[I", true)
  | 8 => ("InjectorTreeModel", "needs", "[I", true)
  | 9 => ("InjectorTreeModel", "needKey", "[I", true)
  | 10 => ("InjectorTreeModel", "needLazy", "[Z", true)
  | 11 => ("InjectorTreeModel", "single", "[I", true)
  | 12 => ("InjectorTreeModel", "request", "[I", true)
  | 13 => ("InjectorTreeModel", "oldSingle", "[I", true)
  | 14 => ("InjectorTreeModel", "oldRequest", "[I", true)
  | 15 => ("InjectorTreeModel", "open", "Z", false)
  | 16 => ("InjectorTreeModel", "iKey", "[I", true)
  | 17 => ("InjectorTreeModel", "iInjector", "[I", true)
  | 18 => ("InjectorTreeModel", "iScope", "[I", true)
  | 19 => ("InjectorTreeModel", "iNeeds", "[I", true)
  | 20 => ("InjectorTreeModel", "iNeedKey", "[I", true)
  | 21 => ("InjectorTreeModel", "iLazy", "[Z", true)
  | 22 => ("InjectorTreeModel", "iValue", "[J", true)
  | 23 => ("InjectorTreeModel", "made", "I", false)
  | 24 => ("InjectorTreeModel", "pile", "[I", true)
  | 25 => ("InjectorTreeModel", "got", "[I", true)
  | 26 => ("InjectorTreeModel", "values", "[J", true)
  | _ => ("InjectorTreeModel", "top", "I", false)
def t_M : Nat → FieldType := fun k => match k with
  | 0 => .array .int
  | 1 => .int
  | 2 => .array .int
  | 3 => .array .boolean
  | 4 => .int
  | 5 => .array .int
  | 6 => .array .int
  | 7 => .array .int
  | 8 => .array .int
  | 9 => .array .int
  | 10 => .array .boolean
  | 11 => .array .int
  | 12 => .array .int
  | 13 => .array .int
  | 14 => .array .int
  | 15 => .boolean
  | 16 => .array .int
  | 17 => .array .int
  | 18 => .array .int
  | 19 => .array .int
  | 20 => .array .int
  | 21 => .array .boolean
  | 22 => .array .long
  | 23 => .int
  | 24 => .array .int
  | 25 => .array .int
  | 26 => .array .long
  | _ => .int
theorem nm_M : ∀ a, a < 28 → ∀ b, b < 28 → a ≠ b → (T_M a).2.1 ≠ (T_M b).2.1 := by decide +kernel
theorem tk_M : ∀ k, k < 28 → parseFieldDescriptor (T_M k).2.2.1 = some (t_M k) := by decide +kernel
abbrev vwCl : List vw_C := [(R_B, T_B, 8), (R_N, T_N, 3), (R_X, T_X, 9), (R_M, T_M, 28)]
def zw : List Cond := lw_tbl.filter goodWord
theorem zw_of {w : Cond} {i : Nat} (h : tables_1[i]? = some w) (g : goodWord w = true) : w ∈ zw := List.mem_filter.mpr ⟨List.mem_append_right _ (List.mem_of_getElem? h), g⟩
theorem zw_sel {q : MethodName × Nat} {i : Nat} (h : lw_privs[i]? = some q) : Cond.selects q.1.cls q.1 q.1 ∈ zw := List.mem_filter.mpr ⟨List.mem_append_left _ (List.mem_map.mpr ⟨q, List.mem_of_getElem? h, rfl⟩), rfl⟩
theorem zw_tbl {w : Cond} (h : w ∈ zw) : w ∈ lw_tbl := (List.mem_filter.mp h).1
theorem zw_good {w : Cond} (h : w ∈ zw) : (w.onTables && w.keeps) = true ∨ ∃ ty, w = .arrayClass ty := good_of_word (List.mem_filter.mp h).2
theorem zgood {Ts : List Cond} {c : Cond} (hT : ∀ w ∈ zw, w ∈ Ts) (hc : c ∈ zw) : GoodIn Ts (c :: zw) := fun w h => by
  rcases List.mem_cons.mp h with rfl | h
  · exact ⟨hT _ hc, zw_good hc⟩
  · exact ⟨hT _ h, zw_good h⟩
abbrev c_X_init : ByteArray := prog_1_method_1_code
abbrev y_X_init : MethodName := ⟨"InjectorTree", "<init>", "()V"⟩
theorem tw_co_X_init : Cond.code y_X_init c_X_init 1 none ∈ zw := zw_of (i := 14) (by decide +kernel) rfl
def ws_X_init : List Cond := Cond.code y_X_init c_X_init 1 none :: zw
abbrev c_N_init : ByteArray := prog_4_method_1_code
abbrev y_N_init : MethodName := ⟨"InjectorTree$Needs", "<init>", "()V"⟩
theorem tw_co_N_init : Cond.code y_N_init c_N_init 1 none ∈ zw := zw_of (i := 24) (by decide +kernel) rfl
def ws_N_init : List Cond := Cond.code y_N_init c_N_init 1 none :: zw
abbrev c_X_child : ByteArray := prog_1_method_2_code
abbrev y_X_child : MethodName := ⟨"InjectorTree", "child", "(I)I"⟩
theorem tw_co_X_child : Cond.code y_X_child c_X_child 3 (some .int) ∈ zw := zw_of (i := 73) (by decide +kernel) rfl
def ws_X_child : List Cond := Cond.code y_X_child c_X_child 3 (some .int) :: zw
abbrev c_X_isInjector : ByteArray := prog_1_method_19_code
abbrev y_X_isInjector : MethodName := ⟨"InjectorTree", "isInjector", "(I)Z"⟩
theorem tw_co_X_isInjector : Cond.code y_X_isInjector c_X_isInjector 2 (some .boolean) ∈ zw := zw_of (i := 77) (by decide +kernel) rfl
def ws_X_isInjector : List Cond := Cond.code y_X_isInjector c_X_isInjector 2 (some .boolean) :: zw
abbrev c_X_need : ByteArray := prog_1_method_3_code
abbrev y_X_need : MethodName := ⟨"InjectorTree", "need", "(IZ)I"⟩
theorem tw_co_X_need : Cond.code y_X_need c_X_need 3 (some .int) ∈ zw := zw_of (i := 81) (by decide +kernel) rfl
def ws_X_need : List Cond := Cond.code y_X_need c_X_need 3 (some .int) :: zw
abbrev c_X_isKey : ByteArray := prog_1_method_20_code
abbrev y_X_isKey : MethodName := ⟨"InjectorTree", "isKey", "(I)Z"⟩
theorem tw_co_X_isKey : Cond.code y_X_isKey c_X_isKey 1 (some .boolean) ∈ zw := zw_of (i := 84) (by decide +kernel) rfl
def ws_X_isKey : List Cond := Cond.code y_X_isKey c_X_isKey 1 (some .boolean) :: zw
abbrev c_N_append : ByteArray := prog_4_method_2_code
abbrev y_N_append : MethodName := ⟨"InjectorTree$Needs", "append", "(IZ)V"⟩
theorem tw_co_N_append : Cond.code y_N_append c_N_append 3 none ∈ zw := zw_of (i := 88) (by decide +kernel) rfl
def ws_N_append : List Cond := Cond.code y_N_append c_N_append 3 none :: zw
abbrev c_X_drop : ByteArray := prog_1_method_4_code
abbrev y_X_drop : MethodName := ⟨"InjectorTree", "drop", "()I"⟩
theorem tw_co_X_drop : Cond.code y_X_drop c_X_drop 2 (some .int) ∈ zw := zw_of (i := 92) (by decide +kernel) rfl
def ws_X_drop : List Cond := Cond.code y_X_drop c_X_drop 2 (some .int) :: zw
abbrev c_X_bindConstant : ByteArray := prog_1_method_5_code
abbrev y_X_bindConstant : MethodName := ⟨"InjectorTree", "bindConstant", "(III)I"⟩
theorem tw_co_X_bindConstant : Cond.code y_X_bindConstant c_X_bindConstant 4 (some .int) ∈ zw := zw_of (i := 96) (by decide +kernel) rfl
def ws_X_bindConstant : List Cond := Cond.code y_X_bindConstant c_X_bindConstant 4 (some .int) :: zw
abbrev c_X_isUnbound : ByteArray := prog_1_method_22_code
abbrev y_X_isUnbound : MethodName := ⟨"InjectorTree", "isUnbound", "(II)Z"⟩
theorem tw_co_X_isUnbound : Cond.code y_X_isUnbound c_X_isUnbound 3 (some .boolean) ∈ zw := zw_of (i := 100) (by decide +kernel) rfl
def ws_X_isUnbound : List Cond := Cond.code y_X_isUnbound c_X_isUnbound 3 (some .boolean) :: zw
abbrev c_X_isPair : ByteArray := prog_1_method_21_code
abbrev y_X_isPair : MethodName := ⟨"InjectorTree", "isPair", "(II)Z"⟩
theorem tw_co_X_isPair : Cond.code y_X_isPair c_X_isPair 3 (some .boolean) ∈ zw := zw_of (i := 104) (by decide +kernel) rfl
def ws_X_isPair : List Cond := Cond.code y_X_isPair c_X_isPair 3 (some .boolean) :: zw
abbrev c_X_pairOf : ByteArray := prog_1_method_23_code
abbrev y_X_pairOf : MethodName := ⟨"InjectorTree", "pairOf", "(II)I"⟩
theorem tw_co_X_pairOf : Cond.code y_X_pairOf c_X_pairOf 2 (some .int) ∈ zw := zw_of (i := 107) (by decide +kernel) rfl
def ws_X_pairOf : List Cond := Cond.code y_X_pairOf c_X_pairOf 2 (some .int) :: zw
abbrev c_B_init : ByteArray := prog_2_method_1_code
abbrev y_B_init : MethodName := ⟨"InjectorTree$Binding", "<init>", "(LInjectorTree$Kind;IIIILInjectorTree$Needs;)V"⟩
theorem tw_co_B_init : Cond.code y_B_init c_B_init 7 none ∈ zw := zw_of (i := 113) (by decide +kernel) rfl
def ws_B_init : List Cond := Cond.code y_B_init c_B_init 7 none :: zw
abbrev c_X_bindLink : ByteArray := prog_1_method_6_code
abbrev y_X_bindLink : MethodName := ⟨"InjectorTree", "bindLink", "(III)I"⟩
theorem tw_co_X_bindLink : Cond.code y_X_bindLink c_X_bindLink 5 (some .int) ∈ zw := zw_of (i := 150) (by decide +kernel) rfl
def ws_X_bindLink : List Cond := Cond.code y_X_bindLink c_X_bindLink 5 (some .int) :: zw
abbrev c_X_bindClass : ByteArray := prog_1_method_7_code
abbrev y_X_bindClass : MethodName := ⟨"InjectorTree", "bindClass", "(III)I"⟩
theorem tw_co_X_bindClass : Cond.code y_X_bindClass c_X_bindClass 5 (some .int) ∈ zw := zw_of (i := 156) (by decide +kernel) rfl
def ws_X_bindClass : List Cond := Cond.code y_X_bindClass c_X_bindClass 5 (some .int) :: zw
abbrev c_X_unbind : ByteArray := prog_1_method_8_code
abbrev y_X_unbind : MethodName := ⟨"InjectorTree", "unbind", "(II)I"⟩
theorem tw_co_X_unbind : Cond.code y_X_unbind c_X_unbind 3 (some .int) ∈ zw := zw_of (i := 162) (by decide +kernel) rfl
def ws_X_unbind : List Cond := Cond.code y_X_unbind c_X_unbind 3 (some .int) :: zw
abbrev c_X_open : ByteArray := prog_1_method_9_code
abbrev y_X_open : MethodName := ⟨"InjectorTree", "open", "()I"⟩
theorem tw_co_X_open : Cond.code y_X_open c_X_open 1 (some .int) ∈ zw := zw_of (i := 166) (by decide +kernel) rfl
def ws_X_open : List Cond := Cond.code y_X_open c_X_open 1 (some .int) :: zw
abbrev c_X_close : ByteArray := prog_1_method_10_code
abbrev y_X_close : MethodName := ⟨"InjectorTree", "close", "()I"⟩
theorem tw_co_X_close : Cond.code y_X_close c_X_close 6 (some .int) ∈ zw := zw_of (i := 170) (by decide +kernel) rfl
def ws_X_close : List Cond := Cond.code y_X_close c_X_close 6 (some .int) :: zw
abbrev c_X_countKept : ByteArray := prog_1_method_38_code
abbrev y_X_countKept : MethodName := ⟨"InjectorTree", "countKept", "(I)I"⟩
theorem tw_co_X_countKept : Cond.code y_X_countKept c_X_countKept 7 (some .int) ∈ zw := zw_of (i := 174) (by decide +kernel) rfl
def ws_X_countKept : List Cond := Cond.code y_X_countKept c_X_countKept 7 (some .int) :: zw
abbrev c_X_get : ByteArray := prog_1_method_11_code
abbrev y_X_get : MethodName := ⟨"InjectorTree", "get", "(II)J"⟩
theorem tw_co_X_get : Cond.code y_X_get c_X_get 3 (some .long) ∈ zw := zw_of (i := 178) (by decide +kernel) rfl
def ws_X_get : List Cond := Cond.code y_X_get c_X_get 3 (some .long) :: zw
abbrev c_X_obtainFromOutside : ByteArray := prog_1_method_27_code
abbrev y_X_obtainFromOutside : MethodName := ⟨"InjectorTree", "obtainFromOutside", "(II)J"⟩
theorem tw_co_X_obtainFromOutside : Cond.code y_X_obtainFromOutside c_X_obtainFromOutside 6 (some .long) ∈ zw := zw_of (i := 183) (by decide +kernel) rfl
def ws_X_obtainFromOutside : List Cond := Cond.code y_X_obtainFromOutside c_X_obtainFromOutside 6 (some .long) :: zw
abbrev c_X_obtain : ByteArray := prog_1_method_31_code
abbrev y_X_obtain : MethodName := ⟨"InjectorTree", "obtain", "(III)J"⟩
theorem tw_co_X_obtain : Cond.code y_X_obtain c_X_obtain 7 (some .long) ∈ zw := zw_of (i := 187) (by decide +kernel) rfl
def ws_X_obtain : List Cond := Cond.code y_X_obtain c_X_obtain 7 (some .long) :: zw
abbrev c_X_seenFrom : ByteArray := prog_1_method_26_code
abbrev y_X_seenFrom : MethodName := ⟨"InjectorTree", "seenFrom", "(II)LInjectorTree$Binding;"⟩
theorem tw_co_X_seenFrom : Cond.code y_X_seenFrom c_X_seenFrom 6 (some (.object "InjectorTree$Binding")) ∈ zw := zw_of (i := 191) (by decide +kernel) rfl
def ws_X_seenFrom : List Cond := Cond.code y_X_seenFrom c_X_seenFrom 6 (some (.object "InjectorTree$Binding")) :: zw
abbrev c_X_obtainNew : ByteArray := prog_1_method_32_code
abbrev y_X_obtainNew : MethodName := ⟨"InjectorTree", "obtainNew", "(LInjectorTree$Binding;I)J"⟩
theorem tw_co_X_obtainNew : Cond.code y_X_obtainNew c_X_obtainNew 8 (some .long) ∈ zw := zw_of (i := 198) (by decide +kernel) rfl
def ws_X_obtainNew : List Cond := Cond.code y_X_obtainNew c_X_obtainNew 8 (some .long) :: zw
abbrev c_X_handleOf : ByteArray := prog_1_method_34_code
abbrev y_X_handleOf : MethodName := ⟨"InjectorTree", "handleOf", "(II)J"⟩
theorem tw_co_X_handleOf : Cond.code y_X_handleOf c_X_handleOf 2 (some .long) ∈ zw := zw_of (i := 202) (by decide +kernel) rfl
def ws_X_handleOf : List Cond := Cond.code y_X_handleOf c_X_handleOf 2 (some .long) :: zw
abbrev c_X_isError : ByteArray := prog_1_method_29_code
abbrev y_X_isError : MethodName := ⟨"InjectorTree", "isError", "(J)Z"⟩
theorem tw_co_X_isError : Cond.code y_X_isError c_X_isError 2 (some .boolean) ∈ zw := zw_of (i := 206) (by decide +kernel) rfl
def ws_X_isError : List Cond := Cond.code y_X_isError c_X_isError 2 (some .boolean) :: zw
abbrev c_X_makeInstance : ByteArray := prog_1_method_33_code
abbrev y_X_makeInstance : MethodName := ⟨"InjectorTree", "makeInstance", "(LInjectorTree$Binding;I)I"⟩
theorem tw_co_X_makeInstance : Cond.code y_X_makeInstance c_X_makeInstance 4 (some .int) ∈ zw := zw_of (i := 211) (by decide +kernel) rfl
def ws_X_makeInstance : List Cond := Cond.code y_X_makeInstance c_X_makeInstance 4 (some .int) :: zw
abbrev c_X_unmakeFrom : ByteArray := prog_1_method_30_code
abbrev y_X_unmakeFrom : MethodName := ⟨"InjectorTree", "unmakeFrom", "(I)V"⟩
theorem tw_co_X_unmakeFrom : Cond.code y_X_unmakeFrom c_X_unmakeFrom 6 none ∈ zw := zw_of (i := 218) (by decide +kernel) rfl
def ws_X_unmakeFrom : List Cond := Cond.code y_X_unmakeFrom c_X_unmakeFrom 6 none :: zw
abbrev c_X_ask : ByteArray := prog_1_method_12_code
abbrev y_X_ask : MethodName := ⟨"InjectorTree", "ask", "(II)J"⟩
theorem tw_co_X_ask : Cond.code y_X_ask c_X_ask 4 (some .long) ∈ zw := zw_of (i := 222) (by decide +kernel) rfl
def ws_X_ask : List Cond := Cond.code y_X_ask c_X_ask 4 (some .long) :: zw
abbrev c_X_makerOf : ByteArray := prog_1_method_24_code
abbrev y_X_makerOf : MethodName := ⟨"InjectorTree", "makerOf", "(I)LInjectorTree$Binding;"⟩
theorem tw_co_X_makerOf : Cond.code y_X_makerOf c_X_makerOf 2 (some (.object "InjectorTree$Binding")) ∈ zw := zw_of (i := 226) (by decide +kernel) rfl
def ws_X_makerOf : List Cond := Cond.code y_X_makerOf c_X_makerOf 2 (some (.object "InjectorTree$Binding")) :: zw
abbrev c_X_hasNeed : ByteArray := prog_1_method_25_code
abbrev y_X_hasNeed : MethodName := ⟨"InjectorTree", "hasNeed", "(LInjectorTree$Binding;I)Z"⟩
theorem tw_co_X_hasNeed : Cond.code y_X_hasNeed c_X_hasNeed 2 (some .boolean) ∈ zw := zw_of (i := 229) (by decide +kernel) rfl
def ws_X_hasNeed : List Cond := Cond.code y_X_hasNeed c_X_hasNeed 2 (some .boolean) :: zw
abbrev c_X_held : ByteArray := prog_1_method_13_code
abbrev y_X_held : MethodName := ⟨"InjectorTree", "held", "(II)J"⟩
theorem tw_co_X_held : Cond.code y_X_held c_X_held 4 (some .long) ∈ zw := zw_of (i := 233) (by decide +kernel) rfl
def ws_X_held : List Cond := Cond.code y_X_held c_X_held 4 (some .long) :: zw
abbrev c_X_about : ByteArray := prog_1_method_14_code
abbrev y_X_about : MethodName := ⟨"InjectorTree", "about", "(II)I"⟩
theorem tw_co_X_about : Cond.code y_X_about c_X_about 4 (some .int) ∈ zw := zw_of (i := 237) (by decide +kernel) rfl
def ws_X_about : List Cond := Cond.code y_X_about c_X_about 4 (some .int) :: zw
abbrev c_X_broken : ByteArray := prog_1_method_15_code
abbrev y_X_broken : MethodName := ⟨"InjectorTree", "broken", "(I)I"⟩
theorem tw_co_X_broken : Cond.code y_X_broken c_X_broken 3 (some .int) ∈ zw := zw_of (i := 241) (by decide +kernel) rfl
def ws_X_broken : List Cond := Cond.code y_X_broken c_X_broken 3 (some .int) :: zw
abbrev c_X_wouldFail : ByteArray := prog_1_method_28_code
abbrev y_X_wouldFail : MethodName := ⟨"InjectorTree", "wouldFail", "(II)Z"⟩
theorem tw_co_X_wouldFail : Cond.code y_X_wouldFail c_X_wouldFail 6 (some .boolean) ∈ zw := zw_of (i := 245) (by decide +kernel) rfl
def ws_X_wouldFail : List Cond := Cond.code y_X_wouldFail c_X_wouldFail 6 (some .boolean) :: zw
abbrev c_X_reach : ByteArray := prog_1_method_16_code
abbrev y_X_reach : MethodName := ⟨"InjectorTree", "reach", "(II)I"⟩
theorem tw_co_X_reach : Cond.code y_X_reach c_X_reach 11 (some .int) ∈ zw := zw_of (i := 249) (by decide +kernel) rfl
def ws_X_reach : List Cond := Cond.code y_X_reach c_X_reach 11 (some .int) :: zw
abbrev c_J_numberOfTrailingZeros : ByteArray := prog_9_method_49_code
abbrev y_J_numberOfTrailingZeros : MethodName := ⟨"java/lang/Long", "numberOfTrailingZeros", "(J)I"⟩
theorem tw_co_J_numberOfTrailingZeros : Cond.code y_J_numberOfTrailingZeros c_J_numberOfTrailingZeros 3 (some .int) ∈ zw := zw_of (i := 252) (by decide +kernel) rfl
def ws_J_numberOfTrailingZeros : List Cond := Cond.code y_J_numberOfTrailingZeros c_J_numberOfTrailingZeros 3 (some .int) :: zw
abbrev c_I_numberOfTrailingZeros : ByteArray := prog_8_method_48_code
abbrev y_I_numberOfTrailingZeros : MethodName := ⟨"java/lang/Integer", "numberOfTrailingZeros", "(I)I"⟩
theorem tw_co_I_numberOfTrailingZeros : Cond.code y_I_numberOfTrailingZeros c_I_numberOfTrailingZeros 2 (some .int) ∈ zw := zw_of (i := 255) (by decide +kernel) rfl
def ws_I_numberOfTrailingZeros : List Cond := Cond.code y_I_numberOfTrailingZeros c_I_numberOfTrailingZeros 2 (some .int) :: zw
abbrev c_X_nextPairs : ByteArray := prog_1_method_35_code
abbrev y_X_nextPairs : MethodName := ⟨"InjectorTree", "nextPairs", "(II)J"⟩
theorem tw_co_X_nextPairs : Cond.code y_X_nextPairs c_X_nextPairs 7 (some .long) ∈ zw := zw_of (i := 260) (by decide +kernel) rfl
def ws_X_nextPairs : List Cond := Cond.code y_X_nextPairs c_X_nextPairs 7 (some .long) :: zw
abbrev c_X_keysOf : ByteArray := prog_1_method_36_code
abbrev y_X_keysOf : MethodName := ⟨"InjectorTree", "keysOf", "(J)I"⟩
theorem tw_co_X_keysOf : Cond.code y_X_keysOf c_X_keysOf 5 (some .int) ∈ zw := zw_of (i := 263) (by decide +kernel) rfl
def ws_X_keysOf : List Cond := Cond.code y_X_keysOf c_X_keysOf 5 (some .int) :: zw
abbrev c_X_home : ByteArray := prog_1_method_17_code
abbrev y_X_home : MethodName := ⟨"InjectorTree", "home", "(II)I"⟩
theorem tw_co_X_home : Cond.code y_X_home c_X_home 4 (some .int) ∈ zw := zw_of (i := 267) (by decide +kernel) rfl
def ws_X_home : List Cond := Cond.code y_X_home c_X_home 4 (some .int) :: zw
abbrev c_X_count : ByteArray := prog_1_method_18_code
abbrev y_X_count : MethodName := ⟨"InjectorTree", "count", "(I)I"⟩
theorem tw_co_X_count : Cond.code y_X_count c_X_count 2 (some .int) ∈ zw := zw_of (i := 271) (by decide +kernel) rfl
def ws_X_count : List Cond := Cond.code y_X_count c_X_count 2 (some .int) :: zw
abbrev c_X_countBindings : ByteArray := prog_1_method_37_code
abbrev y_X_countBindings : MethodName := ⟨"InjectorTree", "countBindings", "()I"⟩
theorem tw_co_X_countBindings : Cond.code y_X_countBindings c_X_countBindings 6 (some .int) ∈ zw := zw_of (i := 275) (by decide +kernel) rfl
def ws_X_countBindings : List Cond := Cond.code y_X_countBindings c_X_countBindings 6 (some .int) :: zw
abbrev c_M_init : ByteArray := prog_6_method_1_code
abbrev y_M_init : MethodName := ⟨"InjectorTreeModel", "<init>", "()V"⟩
theorem tw_co_M_init : Cond.code y_M_init c_M_init 1 none ∈ zw := zw_of (i := 280) (by decide +kernel) rfl
def ws_M_init : List Cond := Cond.code y_M_init c_M_init 1 none :: zw
abbrev c_M_child : ByteArray := prog_6_method_3_code
abbrev y_M_child : MethodName := ⟨"InjectorTreeModel", "child", "(I)I"⟩
theorem tw_co_M_child : Cond.code y_M_child c_M_child 2 (some .int) ∈ zw := zw_of (i := 370) (by decide +kernel) rfl
def ws_M_child : List Cond := Cond.code y_M_child c_M_child 2 (some .int) :: zw
abbrev c_M_need : ByteArray := prog_6_method_4_code
abbrev y_M_need : MethodName := ⟨"InjectorTreeModel", "need", "(IZ)I"⟩
theorem tw_co_M_need : Cond.code y_M_need c_M_need 3 (some .int) ∈ zw := zw_of (i := 374) (by decide +kernel) rfl
def ws_M_need : List Cond := Cond.code y_M_need c_M_need 3 (some .int) :: zw
abbrev c_M_drop : ByteArray := prog_6_method_5_code
abbrev y_M_drop : MethodName := ⟨"InjectorTreeModel", "drop", "()I"⟩
theorem tw_co_M_drop : Cond.code y_M_drop c_M_drop 2 (some .int) ∈ zw := zw_of (i := 378) (by decide +kernel) rfl
def ws_M_drop : List Cond := Cond.code y_M_drop c_M_drop 2 (some .int) :: zw
abbrev c_M_bindConstant : ByteArray := prog_6_method_7_code
abbrev y_M_bindConstant : MethodName := ⟨"InjectorTreeModel", "bindConstant", "(III)I"⟩
theorem tw_co_M_bindConstant : Cond.code y_M_bindConstant c_M_bindConstant 4 (some .int) ∈ zw := zw_of (i := 382) (by decide +kernel) rfl
def ws_M_bindConstant : List Cond := Cond.code y_M_bindConstant c_M_bindConstant 4 (some .int) :: zw
abbrev c_M_bind : ByteArray := prog_6_method_6_code
abbrev y_M_bind : MethodName := ⟨"InjectorTreeModel", "bind", "(IIII)I"⟩
theorem tw_co_M_bind : Cond.code y_M_bind c_M_bind 5 (some .int) ∈ zw := zw_of (i := 386) (by decide +kernel) rfl
def ws_M_bind : List Cond := Cond.code y_M_bind c_M_bind 5 (some .int) :: zw
abbrev c_M_noPair : ByteArray := prog_6_method_2_code
abbrev y_M_noPair : MethodName := ⟨"InjectorTreeModel", "noPair", "(II)Z"⟩
theorem tw_co_M_noPair : Cond.code y_M_noPair c_M_noPair 3 (some .boolean) ∈ zw := zw_of (i := 390) (by decide +kernel) rfl
def ws_M_noPair : List Cond := Cond.code y_M_noPair c_M_noPair 3 (some .boolean) :: zw
abbrev c_M_bindLink : ByteArray := prog_6_method_8_code
abbrev y_M_bindLink : MethodName := ⟨"InjectorTreeModel", "bindLink", "(III)I"⟩
theorem tw_co_M_bindLink : Cond.code y_M_bindLink c_M_bindLink 4 (some .int) ∈ zw := zw_of (i := 394) (by decide +kernel) rfl
def ws_M_bindLink : List Cond := Cond.code y_M_bindLink c_M_bindLink 4 (some .int) :: zw
abbrev c_M_bindClass : ByteArray := prog_6_method_9_code
abbrev y_M_bindClass : MethodName := ⟨"InjectorTreeModel", "bindClass", "(III)I"⟩
theorem tw_co_M_bindClass : Cond.code y_M_bindClass c_M_bindClass 6 (some .int) ∈ zw := zw_of (i := 398) (by decide +kernel) rfl
def ws_M_bindClass : List Cond := Cond.code y_M_bindClass c_M_bindClass 6 (some .int) :: zw
abbrev c_M_unbind : ByteArray := prog_6_method_10_code
abbrev y_M_unbind : MethodName := ⟨"InjectorTreeModel", "unbind", "(II)I"⟩
theorem tw_co_M_unbind : Cond.code y_M_unbind c_M_unbind 4 (some .int) ∈ zw := zw_of (i := 403) (by decide +kernel) rfl
def ws_M_unbind : List Cond := Cond.code y_M_unbind c_M_unbind 4 (some .int) :: zw
abbrev c_M_open : ByteArray := prog_6_method_11_code
abbrev y_M_open : MethodName := ⟨"InjectorTreeModel", "open", "()I"⟩
theorem tw_co_M_open : Cond.code y_M_open c_M_open 1 (some .int) ∈ zw := zw_of (i := 407) (by decide +kernel) rfl
def ws_M_open : List Cond := Cond.code y_M_open c_M_open 1 (some .int) :: zw
abbrev c_M_close : ByteArray := prog_6_method_13_code
abbrev y_M_close : MethodName := ⟨"InjectorTreeModel", "close", "()I"⟩
theorem tw_co_M_close : Cond.code y_M_close c_M_close 3 (some .int) ∈ zw := zw_of (i := 411) (by decide +kernel) rfl
def ws_M_close : List Cond := Cond.code y_M_close c_M_close 3 (some .int) :: zw
abbrev c_M_filled : ByteArray := prog_6_method_12_code
abbrev y_M_filled : MethodName := ⟨"InjectorTreeModel", "filled", "([I)I"⟩
theorem tw_co_M_filled : Cond.code y_M_filled c_M_filled 3 (some .int) ∈ zw := zw_of (i := 414) (by decide +kernel) rfl
def ws_M_filled : List Cond := Cond.code y_M_filled c_M_filled 3 (some .int) :: zw
abbrev c_M_get : ByteArray := prog_6_method_23_code
abbrev y_M_get : MethodName := ⟨"InjectorTreeModel", "get", "(II)J"⟩
theorem tw_co_M_get : Cond.code y_M_get c_M_get 6 (some .long) ∈ zw := zw_of (i := 418) (by decide +kernel) rfl
def ws_M_get : List Cond := Cond.code y_M_get c_M_get 6 (some .long) :: zw
abbrev c_M_keepCopies : ByteArray := prog_6_method_21_code
abbrev y_M_keepCopies : MethodName := ⟨"InjectorTreeModel", "keepCopies", "()V"⟩
theorem tw_co_M_keepCopies : Cond.code y_M_keepCopies c_M_keepCopies 2 none ∈ zw := zw_of (i := 423) (by decide +kernel) rfl
def ws_M_keepCopies : List Cond := Cond.code y_M_keepCopies c_M_keepCopies 2 none :: zw
abbrev c_M_gets : ByteArray := prog_6_method_20_code
abbrev y_M_gets : MethodName := ⟨"InjectorTreeModel", "gets", "(II)J"⟩
theorem tw_co_M_gets : Cond.code y_M_gets c_M_gets 7 (some .long) ∈ zw := zw_of (i := 427) (by decide +kernel) rfl
def ws_M_gets : List Cond := Cond.code y_M_gets c_M_gets 7 (some .long) :: zw
abbrev c_M_begin : ByteArray := prog_6_method_16_code
abbrev y_M_begin : MethodName := ⟨"InjectorTreeModel", "begin", "(II)J"⟩
theorem tw_co_M_begin : Cond.code y_M_begin c_M_begin 4 (some .long) ∈ zw := zw_of (i := 431) (by decide +kernel) rfl
def ws_M_begin : List Cond := Cond.code y_M_begin c_M_begin 4 (some .long) :: zw
abbrev c_M_seen : ByteArray := prog_6_method_14_code
abbrev y_M_seen : MethodName := ⟨"InjectorTreeModel", "seen", "(II)I"⟩
theorem tw_co_M_seen : Cond.code y_M_seen c_M_seen 4 (some .int) ∈ zw := zw_of (i := 435) (by decide +kernel) rfl
def ws_M_seen : List Cond := Cond.code y_M_seen c_M_seen 4 (some .int) :: zw
abbrev c_M_working : ByteArray := prog_6_method_15_code
abbrev y_M_working : MethodName := ⟨"InjectorTreeModel", "working", "(I)Z"⟩
theorem tw_co_M_working : Cond.code y_M_working c_M_working 3 (some .boolean) ∈ zw := zw_of (i := 441) (by decide +kernel) rfl
def ws_M_working : List Cond := Cond.code y_M_working c_M_working 3 (some .boolean) :: zw
abbrev c_M_work : ByteArray := prog_6_method_18_code
abbrev y_M_work : MethodName := ⟨"InjectorTreeModel", "work", "()J"⟩
theorem tw_co_M_work : Cond.code y_M_work c_M_work 6 (some .long) ∈ zw := zw_of (i := 449) (by decide +kernel) rfl
def ws_M_work : List Cond := Cond.code y_M_work c_M_work 6 (some .long) :: zw
abbrev c_M_make : ByteArray := prog_6_method_17_code
abbrev y_M_make : MethodName := ⟨"InjectorTreeModel", "make", "(II)J"⟩
theorem tw_co_M_make : Cond.code y_M_make c_M_make 5 (some .long) ∈ zw := zw_of (i := 454) (by decide +kernel) rfl
def ws_M_make : List Cond := Cond.code y_M_make c_M_make 5 (some .long) :: zw
abbrev c_M_took : ByteArray := prog_6_method_19_code
abbrev y_M_took : MethodName := ⟨"InjectorTreeModel", "took", "(JI)Z"⟩
theorem tw_co_M_took : Cond.code y_M_took c_M_took 4 (some .boolean) ∈ zw := zw_of (i := 459) (by decide +kernel) rfl
def ws_M_took : List Cond := Cond.code y_M_took c_M_took 4 (some .boolean) :: zw
abbrev c_M_takeBack : ByteArray := prog_6_method_22_code
abbrev y_M_takeBack : MethodName := ⟨"InjectorTreeModel", "takeBack", "(I)V"⟩
theorem tw_co_M_takeBack : Cond.code y_M_takeBack c_M_takeBack 3 none ∈ zw := zw_of (i := 463) (by decide +kernel) rfl
def ws_M_takeBack : List Cond := Cond.code y_M_takeBack c_M_takeBack 3 none :: zw
abbrev c_M_ask : ByteArray := prog_6_method_25_code
abbrev y_M_ask : MethodName := ⟨"InjectorTreeModel", "ask", "(II)J"⟩
theorem tw_co_M_ask : Cond.code y_M_ask c_M_ask 4 (some .long) ∈ zw := zw_of (i := 467) (by decide +kernel) rfl
def ws_M_ask : List Cond := Cond.code y_M_ask c_M_ask 4 (some .long) :: zw
abbrev c_M_noNeed : ByteArray := prog_6_method_24_code
abbrev y_M_noNeed : MethodName := ⟨"InjectorTreeModel", "noNeed", "(II)Z"⟩
theorem tw_co_M_noNeed : Cond.code y_M_noNeed c_M_noNeed 3 (some .boolean) ∈ zw := zw_of (i := 471) (by decide +kernel) rfl
def ws_M_noNeed : List Cond := Cond.code y_M_noNeed c_M_noNeed 3 (some .boolean) :: zw
abbrev c_M_held : ByteArray := prog_6_method_26_code
abbrev y_M_held : MethodName := ⟨"InjectorTreeModel", "held", "(II)J"⟩
theorem tw_co_M_held : Cond.code y_M_held c_M_held 3 (some .long) ∈ zw := zw_of (i := 476) (by decide +kernel) rfl
def ws_M_held : List Cond := Cond.code y_M_held c_M_held 3 (some .long) :: zw
abbrev c_M_about : ByteArray := prog_6_method_27_code
abbrev y_M_about : MethodName := ⟨"InjectorTreeModel", "about", "(II)I"⟩
theorem tw_co_M_about : Cond.code y_M_about c_M_about 3 (some .int) ∈ zw := zw_of (i := 480) (by decide +kernel) rfl
def ws_M_about : List Cond := Cond.code y_M_about c_M_about 3 (some .int) :: zw
abbrev c_M_broken : ByteArray := prog_6_method_28_code
abbrev y_M_broken : MethodName := ⟨"InjectorTreeModel", "broken", "(I)I"⟩
theorem tw_co_M_broken : Cond.code y_M_broken c_M_broken 6 (some .int) ∈ zw := zw_of (i := 484) (by decide +kernel) rfl
def ws_M_broken : List Cond := Cond.code y_M_broken c_M_broken 6 (some .int) :: zw
abbrev c_M_reach : ByteArray := prog_6_method_29_code
abbrev y_M_reach : MethodName := ⟨"InjectorTreeModel", "reach", "(II)I"⟩
theorem tw_co_M_reach : Cond.code y_M_reach c_M_reach 9 (some .int) ∈ zw := zw_of (i := 488) (by decide +kernel) rfl
def ws_M_reach : List Cond := Cond.code y_M_reach c_M_reach 9 (some .int) :: zw
abbrev c_M_home : ByteArray := prog_6_method_30_code
abbrev y_M_home : MethodName := ⟨"InjectorTreeModel", "home", "(II)I"⟩
theorem tw_co_M_home : Cond.code y_M_home c_M_home 4 (some .int) ∈ zw := zw_of (i := 492) (by decide +kernel) rfl
def ws_M_home : List Cond := Cond.code y_M_home c_M_home 4 (some .int) :: zw
abbrev c_M_count : ByteArray := prog_6_method_31_code
abbrev y_M_count : MethodName := ⟨"InjectorTreeModel", "count", "(I)I"⟩
theorem tw_co_M_count : Cond.code y_M_count c_M_count 2 (some .int) ∈ zw := zw_of (i := 496) (by decide +kernel) rfl
def ws_M_count : List Cond := Cond.code y_M_count c_M_count 2 (some .int) :: zw
theorem tw_in_L : Cond.initialized "InjectorTreeLaw" ∈ zw := zw_of (i := 0) (by decide +kernel) rfl
theorem tw_in_X : Cond.initialized "InjectorTree" ∈ zw := zw_of (i := 1) (by decide +kernel) rfl
theorem tw_in_N : Cond.initialized "InjectorTree$Needs" ∈ zw := zw_of (i := 2) (by decide +kernel) rfl
theorem tw_in_M : Cond.initialized "InjectorTreeModel" ∈ zw := zw_of (i := 3) (by decide +kernel) rfl
theorem tw_in_B : Cond.initialized "InjectorTree$Binding" ∈ zw := zw_of (i := 4) (by decide +kernel) rfl
theorem tw_in_Kd : Cond.initialized "InjectorTree$Kind" ∈ zw := zw_of (i := 6) (by decide +kernel) rfl
theorem tw_in_S : Cond.initialized "java/lang/System" ∈ zw := zw_of (i := 7) (by decide +kernel) rfl
theorem tw_in_J : Cond.initialized "java/lang/Long" ∈ zw := zw_of (i := 8) (by decide +kernel) rfl
theorem tw_in_I : Cond.initialized "java/lang/Integer" ∈ zw := zw_of (i := 9) (by decide +kernel) rfl
theorem tw_cl_L_7 : Cond.classLink "InjectorTreeLaw" 7 "InjectorTree" ∈ zw := zw_of (i := 10) (by decide +kernel) rfl
theorem tw_is_X : Cond.instantiable "InjectorTree" 9 ∈ zw := zw_of (i := 11) (by decide +kernel) rfl
theorem tw_ml_L_9 : Cond.methodLink "InjectorTreeLaw" 9 y_X_init ∈ zw := zw_of (i := 12) (by decide +kernel) rfl
theorem tw_im_X_init : Cond.instanceMethod y_X_init ∈ zw := zw_of (i := 13) (by decide +kernel) rfl
theorem tw_ml_X_3 : Cond.methodLink "InjectorTree" 3 objectInit ∈ zw := zw_of (i := 15) (by decide +kernel) rfl
theorem tw_im_oinit : Cond.instanceMethod objectInit ∈ zw := zw_of (i := 16) (by decide +kernel) rfl
theorem tw_co_oinit : Cond.code objectInit ⟨#[0xb1]⟩ 1 none ∈ zw := zw_of (i := 17) (by decide +kernel) rfl
theorem tw_cl_X_17 : Cond.classLink "InjectorTree" 17 "InjectorTree$Binding" ∈ zw := zw_of (i := 18) (by decide +kernel) rfl
theorem tw_cl_X_33 : Cond.classLink "InjectorTree" 33 "InjectorTree$Needs" ∈ zw := zw_of (i := 20) (by decide +kernel) rfl
theorem tw_is_N : Cond.instantiable "InjectorTree$Needs" 3 ∈ zw := zw_of (i := 21) (by decide +kernel) rfl
theorem tw_im_N_init : Cond.instanceMethod y_N_init ∈ zw := zw_of (i := 23) (by decide +kernel) rfl
theorem tw_ml_N_3 : Cond.methodLink "InjectorTree$Needs" 3 objectInit ∈ zw := zw_of (i := 25) (by decide +kernel) rfl
theorem tw_fl_N_9 : Cond.fieldLink "InjectorTree$Needs" 9 "InjectorTree$Needs" "keys" "[I" ∈ zw := zw_of (i := 26) (by decide +kernel) rfl
theorem tw_fl_N_15 : Cond.fieldLink "InjectorTree$Needs" 15 "InjectorTree$Needs" "lazy" "[Z" ∈ zw := zw_of (i := 28) (by decide +kernel) rfl
theorem tw_fl_N_19 : Cond.fieldLink "InjectorTree$Needs" 19 "InjectorTree$Needs" "size" "I" ∈ zw := zw_of (i := 30) (by decide +kernel) rfl
theorem tw_ac_int : Cond.arrayClass .int ∈ zw := zw_of (i := 39) (by decide +kernel) rfl
theorem tw_ac_long : Cond.arrayClass .long ∈ zw := zw_of (i := 40) (by decide +kernel) rfl
theorem tw_ac_boolean : Cond.arrayClass .boolean ∈ zw := zw_of (i := 41) (by decide +kernel) rfl
theorem tw_fl_X_9 : Cond.fieldLink "InjectorTree" 9 "InjectorTree" "parents" "[I" ∈ zw := zw_of (i := 42) (by decide +kernel) rfl
theorem tw_fl_X_19 : Cond.fieldLink "InjectorTree" 19 "InjectorTree" "bindings" "[LInjectorTree$Binding;" ∈ zw := zw_of (i := 43) (by decide +kernel) rfl
theorem tw_fl_X_23 : Cond.fieldLink "InjectorTree" 23 "InjectorTree" "makers" "[LInjectorTree$Binding;" ∈ zw := zw_of (i := 44) (by decide +kernel) rfl
theorem tw_fl_X_26 : Cond.fieldLink "InjectorTree" 26 "InjectorTree" "values" "[J" ∈ zw := zw_of (i := 45) (by decide +kernel) rfl
theorem tw_fl_X_30 : Cond.fieldLink "InjectorTree" 30 "InjectorTree" "gathered" "[J" ∈ zw := zw_of (i := 46) (by decide +kernel) rfl
theorem tw_fl_X_36 : Cond.fieldLink "InjectorTree" 36 "InjectorTree" "buffer" "LInjectorTree$Needs;" ∈ zw := zw_of (i := 47) (by decide +kernel) rfl
theorem tw_fl_X_13 : Cond.fieldLink "InjectorTree" 13 "InjectorTree" "injectors" "I" ∈ zw := zw_of (i := 48) (by decide +kernel) rfl
theorem tw_fl_X_143 : Cond.fieldLink "InjectorTree" 143 "InjectorTree" "made" "I" ∈ zw := zw_of (i := 49) (by decide +kernel) rfl
theorem tw_fl_X_80 : Cond.fieldLink "InjectorTree" 80 "InjectorTree" "requestOpen" "Z" ∈ zw := zw_of (i := 50) (by decide +kernel) rfl
theorem tw_ml_L_13 : Cond.methodLink "InjectorTreeLaw" 13 y_X_child ∈ zw := zw_of (i := 70) (by decide +kernel) rfl
theorem tw_im_X_child : Cond.instanceMethod y_X_child ∈ zw := zw_of (i := 71) (by decide +kernel) rfl
theorem tw_se_X_child : Cond.selects "InjectorTree" y_X_child y_X_child ∈ zw := zw_of (i := 72) (by decide +kernel) rfl
theorem tw_ml_X_40 : Cond.methodLink "InjectorTree" 40 y_X_isInjector ∈ zw := zw_of (i := 74) (by decide +kernel) rfl
theorem tw_im_X_isInjector : Cond.instanceMethod y_X_isInjector ∈ zw := zw_of (i := 76) (by decide +kernel) rfl
theorem tw_ml_L_18 : Cond.methodLink "InjectorTreeLaw" 18 y_X_need ∈ zw := zw_of (i := 78) (by decide +kernel) rfl
theorem tw_im_X_need : Cond.instanceMethod y_X_need ∈ zw := zw_of (i := 79) (by decide +kernel) rfl
theorem tw_se_X_need : Cond.selects "InjectorTree" y_X_need y_X_need ∈ zw := zw_of (i := 80) (by decide +kernel) rfl
theorem tw_ml_X_44 : Cond.methodLink "InjectorTree" 44 y_X_isKey ∈ zw := zw_of (i := 82) (by decide +kernel) rfl
theorem tw_st_X_isKey : Cond.static y_X_isKey ∈ zw := zw_of (i := 83) (by decide +kernel) rfl
theorem tw_im_N_append : Cond.instanceMethod y_N_append ∈ zw := zw_of (i := 87) (by decide +kernel) rfl
theorem tw_ml_L_23 : Cond.methodLink "InjectorTreeLaw" 23 y_X_drop ∈ zw := zw_of (i := 89) (by decide +kernel) rfl
theorem tw_im_X_drop : Cond.instanceMethod y_X_drop ∈ zw := zw_of (i := 90) (by decide +kernel) rfl
theorem tw_se_X_drop : Cond.selects "InjectorTree" y_X_drop y_X_drop ∈ zw := zw_of (i := 91) (by decide +kernel) rfl
theorem tw_ml_L_28 : Cond.methodLink "InjectorTreeLaw" 28 y_X_bindConstant ∈ zw := zw_of (i := 93) (by decide +kernel) rfl
theorem tw_im_X_bindConstant : Cond.instanceMethod y_X_bindConstant ∈ zw := zw_of (i := 94) (by decide +kernel) rfl
theorem tw_se_X_bindConstant : Cond.selects "InjectorTree" y_X_bindConstant y_X_bindConstant ∈ zw := zw_of (i := 95) (by decide +kernel) rfl
theorem tw_ml_X_54 : Cond.methodLink "InjectorTree" 54 y_X_isUnbound ∈ zw := zw_of (i := 97) (by decide +kernel) rfl
theorem tw_im_X_isUnbound : Cond.instanceMethod y_X_isUnbound ∈ zw := zw_of (i := 99) (by decide +kernel) rfl
theorem tw_ml_X_77 : Cond.methodLink "InjectorTree" 77 y_X_isPair ∈ zw := zw_of (i := 101) (by decide +kernel) rfl
theorem tw_im_X_isPair : Cond.instanceMethod y_X_isPair ∈ zw := zw_of (i := 103) (by decide +kernel) rfl
theorem tw_ml_X_58 : Cond.methodLink "InjectorTree" 58 y_X_pairOf ∈ zw := zw_of (i := 105) (by decide +kernel) rfl
theorem tw_st_X_pairOf : Cond.static y_X_pairOf ∈ zw := zw_of (i := 106) (by decide +kernel) rfl
theorem tw_is_B : Cond.instantiable "InjectorTree$Binding" 8 ∈ zw := zw_of (i := 108) (by decide +kernel) rfl
theorem tw_fl_X_62 : Cond.fieldLink "InjectorTree" 62 "InjectorTree$Kind" "CONSTANT" "LInjectorTree$Kind;" ∈ zw := zw_of (i := 109) (by decide +kernel) rfl
theorem tw_im_B_init : Cond.instanceMethod y_B_init ∈ zw := zw_of (i := 112) (by decide +kernel) rfl
theorem tw_ml_B_3 : Cond.methodLink "InjectorTree$Binding" 3 objectInit ∈ zw := zw_of (i := 114) (by decide +kernel) rfl
theorem tw_fl_B_9 : Cond.fieldLink "InjectorTree$Binding" 9 "InjectorTree$Binding" "kind" "LInjectorTree$Kind;" ∈ zw := zw_of (i := 115) (by decide +kernel) rfl
theorem tw_fl_B_15 : Cond.fieldLink "InjectorTree$Binding" 15 "InjectorTree$Binding" "injector" "I" ∈ zw := zw_of (i := 117) (by decide +kernel) rfl
theorem tw_fl_B_19 : Cond.fieldLink "InjectorTree$Binding" 19 "InjectorTree$Binding" "key" "I" ∈ zw := zw_of (i := 119) (by decide +kernel) rfl
theorem tw_fl_B_22 : Cond.fieldLink "InjectorTree$Binding" 22 "InjectorTree$Binding" "constant" "I" ∈ zw := zw_of (i := 121) (by decide +kernel) rfl
theorem tw_fl_B_25 : Cond.fieldLink "InjectorTree$Binding" 25 "InjectorTree$Binding" "scope" "I" ∈ zw := zw_of (i := 123) (by decide +kernel) rfl
theorem tw_fl_B_28 : Cond.fieldLink "InjectorTree$Binding" 28 "InjectorTree$Binding" "needs" "LInjectorTree$Needs;" ∈ zw := zw_of (i := 125) (by decide +kernel) rfl
theorem tw_fl_B_32 : Cond.fieldLink "InjectorTree$Binding" 32 "InjectorTree$Binding" "kept" "I" ∈ zw := zw_of (i := 127) (by decide +kernel) rfl
theorem tw_ml_L_33 : Cond.methodLink "InjectorTreeLaw" 33 y_X_bindLink ∈ zw := zw_of (i := 147) (by decide +kernel) rfl
theorem tw_im_X_bindLink : Cond.instanceMethod y_X_bindLink ∈ zw := zw_of (i := 148) (by decide +kernel) rfl
theorem tw_se_X_bindLink : Cond.selects "InjectorTree" y_X_bindLink y_X_bindLink ∈ zw := zw_of (i := 149) (by decide +kernel) rfl
theorem tw_fl_X_71 : Cond.fieldLink "InjectorTree" 71 "InjectorTree$Kind" "LINK" "LInjectorTree$Kind;" ∈ zw := zw_of (i := 151) (by decide +kernel) rfl
theorem tw_ml_L_37 : Cond.methodLink "InjectorTreeLaw" 37 y_X_bindClass ∈ zw := zw_of (i := 153) (by decide +kernel) rfl
theorem tw_im_X_bindClass : Cond.instanceMethod y_X_bindClass ∈ zw := zw_of (i := 154) (by decide +kernel) rfl
theorem tw_se_X_bindClass : Cond.selects "InjectorTree" y_X_bindClass y_X_bindClass ∈ zw := zw_of (i := 155) (by decide +kernel) rfl
theorem tw_fl_X_74 : Cond.fieldLink "InjectorTree" 74 "InjectorTree$Kind" "CLASS" "LInjectorTree$Kind;" ∈ zw := zw_of (i := 157) (by decide +kernel) rfl
theorem tw_ml_L_41 : Cond.methodLink "InjectorTreeLaw" 41 y_X_unbind ∈ zw := zw_of (i := 159) (by decide +kernel) rfl
theorem tw_im_X_unbind : Cond.instanceMethod y_X_unbind ∈ zw := zw_of (i := 160) (by decide +kernel) rfl
theorem tw_se_X_unbind : Cond.selects "InjectorTree" y_X_unbind y_X_unbind ∈ zw := zw_of (i := 161) (by decide +kernel) rfl
theorem tw_ml_L_46 : Cond.methodLink "InjectorTreeLaw" 46 y_X_open ∈ zw := zw_of (i := 163) (by decide +kernel) rfl
theorem tw_im_X_open : Cond.instanceMethod y_X_open ∈ zw := zw_of (i := 164) (by decide +kernel) rfl
theorem tw_se_X_open : Cond.selects "InjectorTree" y_X_open y_X_open ∈ zw := zw_of (i := 165) (by decide +kernel) rfl
theorem tw_ml_L_50 : Cond.methodLink "InjectorTreeLaw" 50 y_X_close ∈ zw := zw_of (i := 167) (by decide +kernel) rfl
theorem tw_im_X_close : Cond.instanceMethod y_X_close ∈ zw := zw_of (i := 168) (by decide +kernel) rfl
theorem tw_se_X_close : Cond.selects "InjectorTree" y_X_close y_X_close ∈ zw := zw_of (i := 169) (by decide +kernel) rfl
theorem tw_ml_X_84 : Cond.methodLink "InjectorTree" 84 y_X_countKept ∈ zw := zw_of (i := 171) (by decide +kernel) rfl
theorem tw_im_X_countKept : Cond.instanceMethod y_X_countKept ∈ zw := zw_of (i := 173) (by decide +kernel) rfl
theorem tw_ml_L_54 : Cond.methodLink "InjectorTreeLaw" 54 y_X_get ∈ zw := zw_of (i := 175) (by decide +kernel) rfl
theorem tw_im_X_get : Cond.instanceMethod y_X_get ∈ zw := zw_of (i := 176) (by decide +kernel) rfl
theorem tw_se_X_get : Cond.selects "InjectorTree" y_X_get y_X_get ∈ zw := zw_of (i := 177) (by decide +kernel) rfl
theorem tw_kl_X_94 : Cond.constantLong "InjectorTree" 94 (Int64.ofInt (-1)) ∈ zw := zw_of (i := 179) (by decide +kernel) rfl
theorem tw_ml_X_96 : Cond.methodLink "InjectorTree" 96 y_X_obtainFromOutside ∈ zw := zw_of (i := 180) (by decide +kernel) rfl
theorem tw_im_X_obtainFromOutside : Cond.instanceMethod y_X_obtainFromOutside ∈ zw := zw_of (i := 182) (by decide +kernel) rfl
theorem tw_ml_X_150 : Cond.methodLink "InjectorTree" 150 y_X_obtain ∈ zw := zw_of (i := 184) (by decide +kernel) rfl
theorem tw_im_X_obtain : Cond.instanceMethod y_X_obtain ∈ zw := zw_of (i := 186) (by decide +kernel) rfl
theorem tw_ml_X_124 : Cond.methodLink "InjectorTree" 124 y_X_seenFrom ∈ zw := zw_of (i := 188) (by decide +kernel) rfl
theorem tw_im_X_seenFrom : Cond.instanceMethod y_X_seenFrom ∈ zw := zw_of (i := 190) (by decide +kernel) rfl
theorem tw_kl_X_162 : Cond.constantLong "InjectorTree" 162 (Int64.ofInt (-2)) ∈ zw := zw_of (i := 192) (by decide +kernel) rfl
theorem tw_kl_X_167 : Cond.constantLong "InjectorTree" 167 (Int64.ofInt 10000000000) ∈ zw := zw_of (i := 193) (by decide +kernel) rfl
theorem tw_kl_X_175 : Cond.constantLong "InjectorTree" 175 (Int64.ofInt (-3)) ∈ zw := zw_of (i := 194) (by decide +kernel) rfl
theorem tw_ml_X_177 : Cond.methodLink "InjectorTree" 177 y_X_obtainNew ∈ zw := zw_of (i := 195) (by decide +kernel) rfl
theorem tw_im_X_obtainNew : Cond.instanceMethod y_X_obtainNew ∈ zw := zw_of (i := 197) (by decide +kernel) rfl
theorem tw_kl_X_181 : Cond.constantLong "InjectorTree" 181 (Int64.ofInt (-4)) ∈ zw := zw_of (i := 199) (by decide +kernel) rfl
theorem tw_ml_X_183 : Cond.methodLink "InjectorTree" 183 y_X_handleOf ∈ zw := zw_of (i := 200) (by decide +kernel) rfl
theorem tw_st_X_handleOf : Cond.static y_X_handleOf ∈ zw := zw_of (i := 201) (by decide +kernel) rfl
theorem tw_kl_X_198 : Cond.constantLong "InjectorTree" 198 (Int64.ofInt 20000000000) ∈ zw := zw_of (i := 203) (by decide +kernel) rfl
theorem tw_ml_X_154 : Cond.methodLink "InjectorTree" 154 y_X_isError ∈ zw := zw_of (i := 204) (by decide +kernel) rfl
theorem tw_st_X_isError : Cond.static y_X_isError ∈ zw := zw_of (i := 205) (by decide +kernel) rfl
theorem tw_kl_X_186 : Cond.constantLong "InjectorTree" 186 (Int64.ofInt (-5)) ∈ zw := zw_of (i := 207) (by decide +kernel) rfl
theorem tw_ml_X_188 : Cond.methodLink "InjectorTree" 188 y_X_makeInstance ∈ zw := zw_of (i := 208) (by decide +kernel) rfl
theorem tw_im_X_makeInstance : Cond.instanceMethod y_X_makeInstance ∈ zw := zw_of (i := 210) (by decide +kernel) rfl
theorem tw_ml_X_192 : Cond.methodLink "InjectorTree" 192 arraycopyName ∈ zw := zw_of (i := 212) (by decide +kernel) rfl
theorem tw_st_acopy : Cond.static arraycopyName ∈ zw := zw_of (i := 213) (by decide +kernel) rfl
theorem tw_na_acopy : Cond.native arraycopyName ∈ zw := zw_of (i := 214) (by decide +kernel) rfl
theorem tw_ml_X_158 : Cond.methodLink "InjectorTree" 158 y_X_unmakeFrom ∈ zw := zw_of (i := 215) (by decide +kernel) rfl
theorem tw_im_X_unmakeFrom : Cond.instanceMethod y_X_unmakeFrom ∈ zw := zw_of (i := 217) (by decide +kernel) rfl
theorem tw_ml_L_59 : Cond.methodLink "InjectorTreeLaw" 59 y_X_ask ∈ zw := zw_of (i := 219) (by decide +kernel) rfl
theorem tw_im_X_ask : Cond.instanceMethod y_X_ask ∈ zw := zw_of (i := 220) (by decide +kernel) rfl
theorem tw_se_X_ask : Cond.selects "InjectorTree" y_X_ask y_X_ask ∈ zw := zw_of (i := 221) (by decide +kernel) rfl
theorem tw_ml_X_100 : Cond.methodLink "InjectorTree" 100 y_X_makerOf ∈ zw := zw_of (i := 223) (by decide +kernel) rfl
theorem tw_im_X_makerOf : Cond.instanceMethod y_X_makerOf ∈ zw := zw_of (i := 225) (by decide +kernel) rfl
theorem tw_ml_X_104 : Cond.methodLink "InjectorTree" 104 y_X_hasNeed ∈ zw := zw_of (i := 227) (by decide +kernel) rfl
theorem tw_st_X_hasNeed : Cond.static y_X_hasNeed ∈ zw := zw_of (i := 228) (by decide +kernel) rfl
theorem tw_ml_L_63 : Cond.methodLink "InjectorTreeLaw" 63 y_X_held ∈ zw := zw_of (i := 230) (by decide +kernel) rfl
theorem tw_im_X_held : Cond.instanceMethod y_X_held ∈ zw := zw_of (i := 231) (by decide +kernel) rfl
theorem tw_se_X_held : Cond.selects "InjectorTree" y_X_held y_X_held ∈ zw := zw_of (i := 232) (by decide +kernel) rfl
theorem tw_ml_L_67 : Cond.methodLink "InjectorTreeLaw" 67 y_X_about ∈ zw := zw_of (i := 234) (by decide +kernel) rfl
theorem tw_im_X_about : Cond.instanceMethod y_X_about ∈ zw := zw_of (i := 235) (by decide +kernel) rfl
theorem tw_se_X_about : Cond.selects "InjectorTree" y_X_about y_X_about ∈ zw := zw_of (i := 236) (by decide +kernel) rfl
theorem tw_ml_L_71 : Cond.methodLink "InjectorTreeLaw" 71 y_X_broken ∈ zw := zw_of (i := 238) (by decide +kernel) rfl
theorem tw_im_X_broken : Cond.instanceMethod y_X_broken ∈ zw := zw_of (i := 239) (by decide +kernel) rfl
theorem tw_se_X_broken : Cond.selects "InjectorTree" y_X_broken y_X_broken ∈ zw := zw_of (i := 240) (by decide +kernel) rfl
theorem tw_ml_X_128 : Cond.methodLink "InjectorTree" 128 y_X_wouldFail ∈ zw := zw_of (i := 242) (by decide +kernel) rfl
theorem tw_im_X_wouldFail : Cond.instanceMethod y_X_wouldFail ∈ zw := zw_of (i := 244) (by decide +kernel) rfl
theorem tw_ml_L_75 : Cond.methodLink "InjectorTreeLaw" 75 y_X_reach ∈ zw := zw_of (i := 246) (by decide +kernel) rfl
theorem tw_im_X_reach : Cond.instanceMethod y_X_reach ∈ zw := zw_of (i := 247) (by decide +kernel) rfl
theorem tw_se_X_reach : Cond.selects "InjectorTree" y_X_reach y_X_reach ∈ zw := zw_of (i := 248) (by decide +kernel) rfl
theorem tw_ml_X_131 : Cond.methodLink "InjectorTree" 131 y_J_numberOfTrailingZeros ∈ zw := zw_of (i := 250) (by decide +kernel) rfl
theorem tw_st_J_numberOfTrailingZeros : Cond.static y_J_numberOfTrailingZeros ∈ zw := zw_of (i := 251) (by decide +kernel) rfl
theorem tw_ml_J_311 : Cond.methodLink "java/lang/Long" 311 y_I_numberOfTrailingZeros ∈ zw := zw_of (i := 253) (by decide +kernel) rfl
theorem tw_st_I_numberOfTrailingZeros : Cond.static y_I_numberOfTrailingZeros ∈ zw := zw_of (i := 254) (by decide +kernel) rfl
theorem tw_ki_I_264 : Cond.constant "java/lang/Integer" 264 (Int32.ofInt 65536) ∈ zw := zw_of (i := 256) (by decide +kernel) rfl
theorem tw_ml_X_137 : Cond.methodLink "InjectorTree" 137 y_X_nextPairs ∈ zw := zw_of (i := 257) (by decide +kernel) rfl
theorem tw_im_X_nextPairs : Cond.instanceMethod y_X_nextPairs ∈ zw := zw_of (i := 259) (by decide +kernel) rfl
theorem tw_ml_X_140 : Cond.methodLink "InjectorTree" 140 y_X_keysOf ∈ zw := zw_of (i := 261) (by decide +kernel) rfl
theorem tw_st_X_keysOf : Cond.static y_X_keysOf ∈ zw := zw_of (i := 262) (by decide +kernel) rfl
theorem tw_ml_L_79 : Cond.methodLink "InjectorTreeLaw" 79 y_X_home ∈ zw := zw_of (i := 264) (by decide +kernel) rfl
theorem tw_im_X_home : Cond.instanceMethod y_X_home ∈ zw := zw_of (i := 265) (by decide +kernel) rfl
theorem tw_se_X_home : Cond.selects "InjectorTree" y_X_home y_X_home ∈ zw := zw_of (i := 266) (by decide +kernel) rfl
theorem tw_ml_L_83 : Cond.methodLink "InjectorTreeLaw" 83 y_X_count ∈ zw := zw_of (i := 268) (by decide +kernel) rfl
theorem tw_im_X_count : Cond.instanceMethod y_X_count ∈ zw := zw_of (i := 269) (by decide +kernel) rfl
theorem tw_se_X_count : Cond.selects "InjectorTree" y_X_count y_X_count ∈ zw := zw_of (i := 270) (by decide +kernel) rfl
theorem tw_ml_X_146 : Cond.methodLink "InjectorTree" 146 y_X_countBindings ∈ zw := zw_of (i := 272) (by decide +kernel) rfl
theorem tw_im_X_countBindings : Cond.instanceMethod y_X_countBindings ∈ zw := zw_of (i := 274) (by decide +kernel) rfl
theorem tw_cl_L_10 : Cond.classLink "InjectorTreeLaw" 10 "InjectorTreeModel" ∈ zw := zw_of (i := 276) (by decide +kernel) rfl
theorem tw_is_M : Cond.instantiable "InjectorTreeModel" 28 ∈ zw := zw_of (i := 277) (by decide +kernel) rfl
theorem tw_ml_L_12 : Cond.methodLink "InjectorTreeLaw" 12 y_M_init ∈ zw := zw_of (i := 278) (by decide +kernel) rfl
theorem tw_im_M_init : Cond.instanceMethod y_M_init ∈ zw := zw_of (i := 279) (by decide +kernel) rfl
theorem tw_ml_M_1 : Cond.methodLink "InjectorTreeModel" 1 objectInit ∈ zw := zw_of (i := 281) (by decide +kernel) rfl
theorem tw_fl_M_7 : Cond.fieldLink "InjectorTreeModel" 7 "InjectorTreeModel" "parent" "[I" ∈ zw := zw_of (i := 282) (by decide +kernel) rfl
theorem tw_fl_M_13 : Cond.fieldLink "InjectorTreeModel" 13 "InjectorTreeModel" "injectors" "I" ∈ zw := zw_of (i := 283) (by decide +kernel) rfl
theorem tw_fl_M_17 : Cond.fieldLink "InjectorTreeModel" 17 "InjectorTreeModel" "bufKey" "[I" ∈ zw := zw_of (i := 284) (by decide +kernel) rfl
theorem tw_fl_M_20 : Cond.fieldLink "InjectorTreeModel" 20 "InjectorTreeModel" "bufLazy" "[Z" ∈ zw := zw_of (i := 285) (by decide +kernel) rfl
theorem tw_fl_M_85 : Cond.fieldLink "InjectorTreeModel" 85 "InjectorTreeModel" "buffered" "I" ∈ zw := zw_of (i := 286) (by decide +kernel) rfl
theorem tw_fl_M_24 : Cond.fieldLink "InjectorTreeModel" 24 "InjectorTreeModel" "kind" "[I" ∈ zw := zw_of (i := 287) (by decide +kernel) rfl
theorem tw_fl_M_27 : Cond.fieldLink "InjectorTreeModel" 27 "InjectorTreeModel" "number" "[I" ∈ zw := zw_of (i := 288) (by decide +kernel) rfl
theorem tw_fl_M_30 : Cond.fieldLink "InjectorTreeModel" 30 "InjectorTreeModel" "scope" "[I" ∈ zw := zw_of (i := 289) (by decide +kernel) rfl
theorem tw_fl_M_33 : Cond.fieldLink "InjectorTreeModel" 33 "InjectorTreeModel" "needs" "[I" ∈ zw := zw_of (i := 290) (by decide +kernel) rfl
theorem tw_fl_M_36 : Cond.fieldLink "InjectorTreeModel" 36 "InjectorTreeModel" "needKey" "[I" ∈ zw := zw_of (i := 291) (by decide +kernel) rfl
theorem tw_fl_M_39 : Cond.fieldLink "InjectorTreeModel" 39 "InjectorTreeModel" "needLazy" "[Z" ∈ zw := zw_of (i := 292) (by decide +kernel) rfl
theorem tw_fl_M_42 : Cond.fieldLink "InjectorTreeModel" 42 "InjectorTreeModel" "single" "[I" ∈ zw := zw_of (i := 293) (by decide +kernel) rfl
theorem tw_fl_M_45 : Cond.fieldLink "InjectorTreeModel" 45 "InjectorTreeModel" "request" "[I" ∈ zw := zw_of (i := 294) (by decide +kernel) rfl
theorem tw_fl_M_48 : Cond.fieldLink "InjectorTreeModel" 48 "InjectorTreeModel" "oldSingle" "[I" ∈ zw := zw_of (i := 295) (by decide +kernel) rfl
theorem tw_fl_M_51 : Cond.fieldLink "InjectorTreeModel" 51 "InjectorTreeModel" "oldRequest" "[I" ∈ zw := zw_of (i := 296) (by decide +kernel) rfl
theorem tw_fl_M_100 : Cond.fieldLink "InjectorTreeModel" 100 "InjectorTreeModel" "open" "Z" ∈ zw := zw_of (i := 297) (by decide +kernel) rfl
theorem tw_fl_M_54 : Cond.fieldLink "InjectorTreeModel" 54 "InjectorTreeModel" "iKey" "[I" ∈ zw := zw_of (i := 298) (by decide +kernel) rfl
theorem tw_fl_M_57 : Cond.fieldLink "InjectorTreeModel" 57 "InjectorTreeModel" "iInjector" "[I" ∈ zw := zw_of (i := 299) (by decide +kernel) rfl
theorem tw_fl_M_60 : Cond.fieldLink "InjectorTreeModel" 60 "InjectorTreeModel" "iScope" "[I" ∈ zw := zw_of (i := 300) (by decide +kernel) rfl
theorem tw_fl_M_63 : Cond.fieldLink "InjectorTreeModel" 63 "InjectorTreeModel" "iNeeds" "[I" ∈ zw := zw_of (i := 301) (by decide +kernel) rfl
theorem tw_fl_M_66 : Cond.fieldLink "InjectorTreeModel" 66 "InjectorTreeModel" "iNeedKey" "[I" ∈ zw := zw_of (i := 302) (by decide +kernel) rfl
theorem tw_fl_M_69 : Cond.fieldLink "InjectorTreeModel" 69 "InjectorTreeModel" "iLazy" "[Z" ∈ zw := zw_of (i := 303) (by decide +kernel) rfl
theorem tw_fl_M_72 : Cond.fieldLink "InjectorTreeModel" 72 "InjectorTreeModel" "iValue" "[J" ∈ zw := zw_of (i := 304) (by decide +kernel) rfl
theorem tw_fl_M_129 : Cond.fieldLink "InjectorTreeModel" 129 "InjectorTreeModel" "made" "I" ∈ zw := zw_of (i := 305) (by decide +kernel) rfl
theorem tw_fl_M_76 : Cond.fieldLink "InjectorTreeModel" 76 "InjectorTreeModel" "pile" "[I" ∈ zw := zw_of (i := 306) (by decide +kernel) rfl
theorem tw_fl_M_79 : Cond.fieldLink "InjectorTreeModel" 79 "InjectorTreeModel" "got" "[I" ∈ zw := zw_of (i := 307) (by decide +kernel) rfl
theorem tw_fl_M_82 : Cond.fieldLink "InjectorTreeModel" 82 "InjectorTreeModel" "values" "[J" ∈ zw := zw_of (i := 308) (by decide +kernel) rfl
theorem tw_fl_M_108 : Cond.fieldLink "InjectorTreeModel" 108 "InjectorTreeModel" "top" "I" ∈ zw := zw_of (i := 309) (by decide +kernel) rfl
theorem tw_ml_L_17 : Cond.methodLink "InjectorTreeLaw" 17 y_M_child ∈ zw := zw_of (i := 367) (by decide +kernel) rfl
theorem tw_im_M_child : Cond.instanceMethod y_M_child ∈ zw := zw_of (i := 368) (by decide +kernel) rfl
theorem tw_se_M_child : Cond.selects "InjectorTreeModel" y_M_child y_M_child ∈ zw := zw_of (i := 369) (by decide +kernel) rfl
theorem tw_ml_L_22 : Cond.methodLink "InjectorTreeLaw" 22 y_M_need ∈ zw := zw_of (i := 371) (by decide +kernel) rfl
theorem tw_im_M_need : Cond.instanceMethod y_M_need ∈ zw := zw_of (i := 372) (by decide +kernel) rfl
theorem tw_se_M_need : Cond.selects "InjectorTreeModel" y_M_need y_M_need ∈ zw := zw_of (i := 373) (by decide +kernel) rfl
theorem tw_ml_L_27 : Cond.methodLink "InjectorTreeLaw" 27 y_M_drop ∈ zw := zw_of (i := 375) (by decide +kernel) rfl
theorem tw_im_M_drop : Cond.instanceMethod y_M_drop ∈ zw := zw_of (i := 376) (by decide +kernel) rfl
theorem tw_se_M_drop : Cond.selects "InjectorTreeModel" y_M_drop y_M_drop ∈ zw := zw_of (i := 377) (by decide +kernel) rfl
theorem tw_ml_L_32 : Cond.methodLink "InjectorTreeLaw" 32 y_M_bindConstant ∈ zw := zw_of (i := 379) (by decide +kernel) rfl
theorem tw_im_M_bindConstant : Cond.instanceMethod y_M_bindConstant ∈ zw := zw_of (i := 380) (by decide +kernel) rfl
theorem tw_se_M_bindConstant : Cond.selects "InjectorTreeModel" y_M_bindConstant y_M_bindConstant ∈ zw := zw_of (i := 381) (by decide +kernel) rfl
theorem tw_ml_M_92 : Cond.methodLink "InjectorTreeModel" 92 y_M_bind ∈ zw := zw_of (i := 383) (by decide +kernel) rfl
theorem tw_im_M_bind : Cond.instanceMethod y_M_bind ∈ zw := zw_of (i := 385) (by decide +kernel) rfl
theorem tw_ml_M_88 : Cond.methodLink "InjectorTreeModel" 88 y_M_noPair ∈ zw := zw_of (i := 387) (by decide +kernel) rfl
theorem tw_im_M_noPair : Cond.instanceMethod y_M_noPair ∈ zw := zw_of (i := 389) (by decide +kernel) rfl
theorem tw_ml_L_36 : Cond.methodLink "InjectorTreeLaw" 36 y_M_bindLink ∈ zw := zw_of (i := 391) (by decide +kernel) rfl
theorem tw_im_M_bindLink : Cond.instanceMethod y_M_bindLink ∈ zw := zw_of (i := 392) (by decide +kernel) rfl
theorem tw_se_M_bindLink : Cond.selects "InjectorTreeModel" y_M_bindLink y_M_bindLink ∈ zw := zw_of (i := 393) (by decide +kernel) rfl
theorem tw_ml_L_40 : Cond.methodLink "InjectorTreeLaw" 40 y_M_bindClass ∈ zw := zw_of (i := 395) (by decide +kernel) rfl
theorem tw_im_M_bindClass : Cond.instanceMethod y_M_bindClass ∈ zw := zw_of (i := 396) (by decide +kernel) rfl
theorem tw_se_M_bindClass : Cond.selects "InjectorTreeModel" y_M_bindClass y_M_bindClass ∈ zw := zw_of (i := 397) (by decide +kernel) rfl
theorem tw_ml_M_96 : Cond.methodLink "InjectorTreeModel" 96 y_M_drop ∈ zw := zw_of (i := 399) (by decide +kernel) rfl
theorem tw_ml_L_45 : Cond.methodLink "InjectorTreeLaw" 45 y_M_unbind ∈ zw := zw_of (i := 400) (by decide +kernel) rfl
theorem tw_im_M_unbind : Cond.instanceMethod y_M_unbind ∈ zw := zw_of (i := 401) (by decide +kernel) rfl
theorem tw_se_M_unbind : Cond.selects "InjectorTreeModel" y_M_unbind y_M_unbind ∈ zw := zw_of (i := 402) (by decide +kernel) rfl
theorem tw_ml_L_49 : Cond.methodLink "InjectorTreeLaw" 49 y_M_open ∈ zw := zw_of (i := 404) (by decide +kernel) rfl
theorem tw_im_M_open : Cond.instanceMethod y_M_open ∈ zw := zw_of (i := 405) (by decide +kernel) rfl
theorem tw_se_M_open : Cond.selects "InjectorTreeModel" y_M_open y_M_open ∈ zw := zw_of (i := 406) (by decide +kernel) rfl
theorem tw_ml_L_53 : Cond.methodLink "InjectorTreeLaw" 53 y_M_close ∈ zw := zw_of (i := 408) (by decide +kernel) rfl
theorem tw_im_M_close : Cond.instanceMethod y_M_close ∈ zw := zw_of (i := 409) (by decide +kernel) rfl
theorem tw_se_M_close : Cond.selects "InjectorTreeModel" y_M_close y_M_close ∈ zw := zw_of (i := 410) (by decide +kernel) rfl
theorem tw_ml_M_104 : Cond.methodLink "InjectorTreeModel" 104 y_M_filled ∈ zw := zw_of (i := 412) (by decide +kernel) rfl
theorem tw_st_M_filled : Cond.static y_M_filled ∈ zw := zw_of (i := 413) (by decide +kernel) rfl
theorem tw_ml_L_58 : Cond.methodLink "InjectorTreeLaw" 58 y_M_get ∈ zw := zw_of (i := 415) (by decide +kernel) rfl
theorem tw_im_M_get : Cond.instanceMethod y_M_get ∈ zw := zw_of (i := 416) (by decide +kernel) rfl
theorem tw_se_M_get : Cond.selects "InjectorTreeModel" y_M_get y_M_get ∈ zw := zw_of (i := 417) (by decide +kernel) rfl
theorem tw_kl_M_152 : Cond.constantLong "InjectorTreeModel" 152 (Int64.ofInt (-1)) ∈ zw := zw_of (i := 419) (by decide +kernel) rfl
theorem tw_ml_M_154 : Cond.methodLink "InjectorTreeModel" 154 y_M_keepCopies ∈ zw := zw_of (i := 420) (by decide +kernel) rfl
theorem tw_im_M_keepCopies : Cond.instanceMethod y_M_keepCopies ∈ zw := zw_of (i := 422) (by decide +kernel) rfl
theorem tw_ml_M_157 : Cond.methodLink "InjectorTreeModel" 157 y_M_gets ∈ zw := zw_of (i := 424) (by decide +kernel) rfl
theorem tw_im_M_gets : Cond.instanceMethod y_M_gets ∈ zw := zw_of (i := 426) (by decide +kernel) rfl
theorem tw_ml_M_134 : Cond.methodLink "InjectorTreeModel" 134 y_M_begin ∈ zw := zw_of (i := 428) (by decide +kernel) rfl
theorem tw_im_M_begin : Cond.instanceMethod y_M_begin ∈ zw := zw_of (i := 430) (by decide +kernel) rfl
theorem tw_ml_M_111 : Cond.methodLink "InjectorTreeModel" 111 y_M_seen ∈ zw := zw_of (i := 432) (by decide +kernel) rfl
theorem tw_im_M_seen : Cond.instanceMethod y_M_seen ∈ zw := zw_of (i := 434) (by decide +kernel) rfl
theorem tw_kl_M_115 : Cond.constantLong "InjectorTreeModel" 115 (Int64.ofInt (-2)) ∈ zw := zw_of (i := 436) (by decide +kernel) rfl
theorem tw_kl_M_117 : Cond.constantLong "InjectorTreeModel" 117 (Int64.ofInt 10000000000) ∈ zw := zw_of (i := 437) (by decide +kernel) rfl
theorem tw_ml_M_119 : Cond.methodLink "InjectorTreeModel" 119 y_M_working ∈ zw := zw_of (i := 438) (by decide +kernel) rfl
theorem tw_im_M_working : Cond.instanceMethod y_M_working ∈ zw := zw_of (i := 440) (by decide +kernel) rfl
theorem tw_kl_M_123 : Cond.constantLong "InjectorTreeModel" 123 (Int64.ofInt (-3)) ∈ zw := zw_of (i := 442) (by decide +kernel) rfl
theorem tw_kl_M_125 : Cond.constantLong "InjectorTreeModel" 125 (Int64.ofInt (-4)) ∈ zw := zw_of (i := 443) (by decide +kernel) rfl
theorem tw_kl_M_127 : Cond.constantLong "InjectorTreeModel" 127 (Int64.ofInt (-100)) ∈ zw := zw_of (i := 444) (by decide +kernel) rfl
theorem tw_ki_M_143 : Cond.constant "InjectorTreeModel" 143 (Int32.ofInt 100000) ∈ zw := zw_of (i := 445) (by decide +kernel) rfl
theorem tw_ml_M_144 : Cond.methodLink "InjectorTreeModel" 144 y_M_work ∈ zw := zw_of (i := 446) (by decide +kernel) rfl
theorem tw_im_M_work : Cond.instanceMethod y_M_work ∈ zw := zw_of (i := 448) (by decide +kernel) rfl
theorem tw_kl_M_138 : Cond.constantLong "InjectorTreeModel" 138 (Int64.ofInt 20000000000) ∈ zw := zw_of (i := 450) (by decide +kernel) rfl
theorem tw_ml_M_140 : Cond.methodLink "InjectorTreeModel" 140 y_M_make ∈ zw := zw_of (i := 451) (by decide +kernel) rfl
theorem tw_im_M_make : Cond.instanceMethod y_M_make ∈ zw := zw_of (i := 453) (by decide +kernel) rfl
theorem tw_kl_M_132 : Cond.constantLong "InjectorTreeModel" 132 (Int64.ofInt (-5)) ∈ zw := zw_of (i := 455) (by decide +kernel) rfl
theorem tw_ml_M_148 : Cond.methodLink "InjectorTreeModel" 148 y_M_took ∈ zw := zw_of (i := 456) (by decide +kernel) rfl
theorem tw_im_M_took : Cond.instanceMethod y_M_took ∈ zw := zw_of (i := 458) (by decide +kernel) rfl
theorem tw_ml_M_160 : Cond.methodLink "InjectorTreeModel" 160 y_M_takeBack ∈ zw := zw_of (i := 460) (by decide +kernel) rfl
theorem tw_im_M_takeBack : Cond.instanceMethod y_M_takeBack ∈ zw := zw_of (i := 462) (by decide +kernel) rfl
theorem tw_ml_L_62 : Cond.methodLink "InjectorTreeLaw" 62 y_M_ask ∈ zw := zw_of (i := 464) (by decide +kernel) rfl
theorem tw_im_M_ask : Cond.instanceMethod y_M_ask ∈ zw := zw_of (i := 465) (by decide +kernel) rfl
theorem tw_se_M_ask : Cond.selects "InjectorTreeModel" y_M_ask y_M_ask ∈ zw := zw_of (i := 466) (by decide +kernel) rfl
theorem tw_ml_M_164 : Cond.methodLink "InjectorTreeModel" 164 y_M_noNeed ∈ zw := zw_of (i := 468) (by decide +kernel) rfl
theorem tw_im_M_noNeed : Cond.instanceMethod y_M_noNeed ∈ zw := zw_of (i := 470) (by decide +kernel) rfl
theorem tw_ml_M_167 : Cond.methodLink "InjectorTreeModel" 167 y_M_get ∈ zw := zw_of (i := 472) (by decide +kernel) rfl
theorem tw_ml_L_66 : Cond.methodLink "InjectorTreeLaw" 66 y_M_held ∈ zw := zw_of (i := 473) (by decide +kernel) rfl
theorem tw_im_M_held : Cond.instanceMethod y_M_held ∈ zw := zw_of (i := 474) (by decide +kernel) rfl
theorem tw_se_M_held : Cond.selects "InjectorTreeModel" y_M_held y_M_held ∈ zw := zw_of (i := 475) (by decide +kernel) rfl
theorem tw_ml_L_70 : Cond.methodLink "InjectorTreeLaw" 70 y_M_about ∈ zw := zw_of (i := 477) (by decide +kernel) rfl
theorem tw_im_M_about : Cond.instanceMethod y_M_about ∈ zw := zw_of (i := 478) (by decide +kernel) rfl
theorem tw_se_M_about : Cond.selects "InjectorTreeModel" y_M_about y_M_about ∈ zw := zw_of (i := 479) (by decide +kernel) rfl
theorem tw_ml_L_74 : Cond.methodLink "InjectorTreeLaw" 74 y_M_broken ∈ zw := zw_of (i := 481) (by decide +kernel) rfl
theorem tw_im_M_broken : Cond.instanceMethod y_M_broken ∈ zw := zw_of (i := 482) (by decide +kernel) rfl
theorem tw_se_M_broken : Cond.selects "InjectorTreeModel" y_M_broken y_M_broken ∈ zw := zw_of (i := 483) (by decide +kernel) rfl
theorem tw_ml_L_78 : Cond.methodLink "InjectorTreeLaw" 78 y_M_reach ∈ zw := zw_of (i := 485) (by decide +kernel) rfl
theorem tw_im_M_reach : Cond.instanceMethod y_M_reach ∈ zw := zw_of (i := 486) (by decide +kernel) rfl
theorem tw_se_M_reach : Cond.selects "InjectorTreeModel" y_M_reach y_M_reach ∈ zw := zw_of (i := 487) (by decide +kernel) rfl
theorem tw_ml_L_82 : Cond.methodLink "InjectorTreeLaw" 82 y_M_home ∈ zw := zw_of (i := 489) (by decide +kernel) rfl
theorem tw_im_M_home : Cond.instanceMethod y_M_home ∈ zw := zw_of (i := 490) (by decide +kernel) rfl
theorem tw_se_M_home : Cond.selects "InjectorTreeModel" y_M_home y_M_home ∈ zw := zw_of (i := 491) (by decide +kernel) rfl
theorem tw_ml_L_86 : Cond.methodLink "InjectorTreeLaw" 86 y_M_count ∈ zw := zw_of (i := 493) (by decide +kernel) rfl
theorem tw_im_M_count : Cond.instanceMethod y_M_count ∈ zw := zw_of (i := 494) (by decide +kernel) rfl
theorem tw_se_M_count : Cond.selects "InjectorTreeModel" y_M_count y_M_count ∈ zw := zw_of (i := 495) (by decide +kernel) rfl
theorem tw_se_X_isInjector : Cond.selects "InjectorTree" y_X_isInjector y_X_isInjector ∈ zw := zw_sel (q := (y_X_isInjector, 9)) (i := 0) (by decide +kernel)
theorem tw_se_N_append : Cond.selects "InjectorTree$Needs" y_N_append y_N_append ∈ zw := zw_sel (q := (y_N_append, 3)) (i := 1) (by decide +kernel)
theorem tw_se_X_isUnbound : Cond.selects "InjectorTree" y_X_isUnbound y_X_isUnbound ∈ zw := zw_sel (q := (y_X_isUnbound, 9)) (i := 2) (by decide +kernel)
theorem tw_se_X_isPair : Cond.selects "InjectorTree" y_X_isPair y_X_isPair ∈ zw := zw_sel (q := (y_X_isPair, 9)) (i := 3) (by decide +kernel)
theorem tw_se_X_countKept : Cond.selects "InjectorTree" y_X_countKept y_X_countKept ∈ zw := zw_sel (q := (y_X_countKept, 9)) (i := 4) (by decide +kernel)
theorem tw_se_X_obtainFromOutside : Cond.selects "InjectorTree" y_X_obtainFromOutside y_X_obtainFromOutside ∈ zw := zw_sel (q := (y_X_obtainFromOutside, 9)) (i := 5) (by decide +kernel)
theorem tw_se_X_obtain : Cond.selects "InjectorTree" y_X_obtain y_X_obtain ∈ zw := zw_sel (q := (y_X_obtain, 9)) (i := 6) (by decide +kernel)
theorem tw_se_X_seenFrom : Cond.selects "InjectorTree" y_X_seenFrom y_X_seenFrom ∈ zw := zw_sel (q := (y_X_seenFrom, 9)) (i := 7) (by decide +kernel)
theorem tw_se_X_obtainNew : Cond.selects "InjectorTree" y_X_obtainNew y_X_obtainNew ∈ zw := zw_sel (q := (y_X_obtainNew, 9)) (i := 8) (by decide +kernel)
theorem tw_se_X_makeInstance : Cond.selects "InjectorTree" y_X_makeInstance y_X_makeInstance ∈ zw := zw_sel (q := (y_X_makeInstance, 9)) (i := 9) (by decide +kernel)
theorem tw_se_X_unmakeFrom : Cond.selects "InjectorTree" y_X_unmakeFrom y_X_unmakeFrom ∈ zw := zw_sel (q := (y_X_unmakeFrom, 9)) (i := 10) (by decide +kernel)
theorem tw_se_X_makerOf : Cond.selects "InjectorTree" y_X_makerOf y_X_makerOf ∈ zw := zw_sel (q := (y_X_makerOf, 9)) (i := 11) (by decide +kernel)
theorem tw_se_X_wouldFail : Cond.selects "InjectorTree" y_X_wouldFail y_X_wouldFail ∈ zw := zw_sel (q := (y_X_wouldFail, 9)) (i := 12) (by decide +kernel)
theorem tw_se_X_nextPairs : Cond.selects "InjectorTree" y_X_nextPairs y_X_nextPairs ∈ zw := zw_sel (q := (y_X_nextPairs, 9)) (i := 13) (by decide +kernel)
theorem tw_se_X_countBindings : Cond.selects "InjectorTree" y_X_countBindings y_X_countBindings ∈ zw := zw_sel (q := (y_X_countBindings, 9)) (i := 14) (by decide +kernel)
theorem tw_se_M_bind : Cond.selects "InjectorTreeModel" y_M_bind y_M_bind ∈ zw := zw_sel (q := (y_M_bind, 28)) (i := 15) (by decide +kernel)
theorem tw_se_M_noPair : Cond.selects "InjectorTreeModel" y_M_noPair y_M_noPair ∈ zw := zw_sel (q := (y_M_noPair, 28)) (i := 16) (by decide +kernel)
theorem tw_se_M_keepCopies : Cond.selects "InjectorTreeModel" y_M_keepCopies y_M_keepCopies ∈ zw := zw_sel (q := (y_M_keepCopies, 28)) (i := 17) (by decide +kernel)
theorem tw_se_M_gets : Cond.selects "InjectorTreeModel" y_M_gets y_M_gets ∈ zw := zw_sel (q := (y_M_gets, 28)) (i := 18) (by decide +kernel)
theorem tw_se_M_begin : Cond.selects "InjectorTreeModel" y_M_begin y_M_begin ∈ zw := zw_sel (q := (y_M_begin, 28)) (i := 19) (by decide +kernel)
theorem tw_se_M_seen : Cond.selects "InjectorTreeModel" y_M_seen y_M_seen ∈ zw := zw_sel (q := (y_M_seen, 28)) (i := 20) (by decide +kernel)
theorem tw_se_M_working : Cond.selects "InjectorTreeModel" y_M_working y_M_working ∈ zw := zw_sel (q := (y_M_working, 28)) (i := 21) (by decide +kernel)
theorem tw_se_M_work : Cond.selects "InjectorTreeModel" y_M_work y_M_work ∈ zw := zw_sel (q := (y_M_work, 28)) (i := 22) (by decide +kernel)
theorem tw_se_M_make : Cond.selects "InjectorTreeModel" y_M_make y_M_make ∈ zw := zw_sel (q := (y_M_make, 28)) (i := 23) (by decide +kernel)
theorem tw_se_M_took : Cond.selects "InjectorTreeModel" y_M_took y_M_took ∈ zw := zw_sel (q := (y_M_took, 28)) (i := 24) (by decide +kernel)
theorem tw_se_M_takeBack : Cond.selects "InjectorTreeModel" y_M_takeBack y_M_takeBack ∈ zw := zw_sel (q := (y_M_takeBack, 28)) (i := 25) (by decide +kernel)
theorem tw_se_M_noNeed : Cond.selects "InjectorTreeModel" y_M_noNeed y_M_noNeed ∈ zw := zw_sel (q := (y_M_noNeed, 28)) (i := 26) (by decide +kernel)
set_option maxRecDepth 20000 in
theorem in_B : ∀ w ∈ u_ws R_B T_B 8, w ∈ zw := by decide +kernel
set_option maxRecDepth 20000 in
theorem in_N : ∀ w ∈ u_ws R_N T_N 3, w ∈ zw := by decide +kernel
set_option maxRecDepth 20000 in
theorem in_X : ∀ w ∈ u_ws R_X T_X 9, w ∈ zw := by decide +kernel
set_option maxRecDepth 20000 in
theorem in_M : ∀ w ∈ u_ws R_M T_M 28, w ∈ zw := by decide +kernel
end
section
abbrev c_L_law : ByteArray := code
theorem d_L_law_0 : decode c_L_law 0 = .ok (.new 7, 3) := by decide +kernel
theorem d_L_law_3 : decode c_L_law 3 = .ok (.dup, 1) := by decide +kernel
theorem d_L_law_4 : decode c_L_law 4 = .ok (.invokespecial 9, 3) := by decide +kernel
theorem d_L_law_7 : decode c_L_law 7 = .ok (.astore_n 1, 1) := by decide +kernel
theorem d_L_law_8 : decode c_L_law 8 = .ok (.new 10, 3) := by decide +kernel
theorem d_L_law_11 : decode c_L_law 11 = .ok (.dup, 1) := by decide +kernel
theorem d_L_law_12 : decode c_L_law 12 = .ok (.invokespecial 12, 3) := by decide +kernel
theorem d_L_law_15 : decode c_L_law 15 = .ok (.astore_n 2, 1) := by decide +kernel
theorem d_L_law_16 : decode c_L_law 16 = .ok (.iconst 0, 1) := by decide +kernel
theorem d_L_law_17 : decode c_L_law 17 = .ok (.istore_n 3, 1) := by decide +kernel
theorem d_L_law_18 : decode c_L_law 18 = .ok (.iload_n 3, 1) := by decide +kernel
theorem d_L_law_19 : decode c_L_law 19 = .ok (.aload_n 0, 1) := by decide +kernel
theorem d_L_law_20 : decode c_L_law 20 = .ok (.arraylength, 1) := by decide +kernel
theorem d_L_law_21 : decode c_L_law 21 = .ok (.iconst 4, 1) := by decide +kernel
theorem d_L_law_22 : decode c_L_law 22 = .ok (.isub, 1) := by decide +kernel
theorem d_L_law_23 : decode c_L_law 23 = .ok (.if_icmp .gt 619, 3) := by decide +kernel
theorem d_L_law_26 : decode c_L_law 26 = .ok (.aload_n 0, 1) := by decide +kernel
theorem d_L_law_27 : decode c_L_law 27 = .ok (.iload_n 3, 1) := by decide +kernel
theorem d_L_law_28 : decode c_L_law 28 = .ok (.iaload, 1) := by decide +kernel
theorem d_L_law_29 : decode c_L_law 29 = .ok (.bipush 31, 2) := by decide +kernel
theorem d_L_law_31 : decode c_L_law 31 = .ok (.iand, 1) := by decide +kernel
theorem d_L_law_32 : decode c_L_law 32 = .ok (.tableswitch 604 0 16 #[84, 107, 156, 169, 212, 255, 298, 331, 344, 357, 391, 425, 459, 492, 515, 548, 581], 84) := by decide +kernel
theorem d_L_law_116 : decode c_L_law 116 = .ok (.aload_n 1, 1) := by decide +kernel
theorem d_L_law_117 : decode c_L_law 117 = .ok (.aload_n 0, 1) := by decide +kernel
theorem d_L_law_118 : decode c_L_law 118 = .ok (.iload_n 3, 1) := by decide +kernel
theorem d_L_law_119 : decode c_L_law 119 = .ok (.iconst 1, 1) := by decide +kernel
theorem d_L_law_120 : decode c_L_law 120 = .ok (.iadd, 1) := by decide +kernel
theorem d_L_law_121 : decode c_L_law 121 = .ok (.iaload, 1) := by decide +kernel
theorem d_L_law_122 : decode c_L_law 122 = .ok (.invokevirtual 13, 3) := by decide +kernel
theorem d_L_law_125 : decode c_L_law 125 = .ok (.aload_n 2, 1) := by decide +kernel
theorem d_L_law_126 : decode c_L_law 126 = .ok (.aload_n 0, 1) := by decide +kernel
theorem d_L_law_127 : decode c_L_law 127 = .ok (.iload_n 3, 1) := by decide +kernel
theorem d_L_law_128 : decode c_L_law 128 = .ok (.iconst 1, 1) := by decide +kernel
theorem d_L_law_129 : decode c_L_law 129 = .ok (.iadd, 1) := by decide +kernel
theorem d_L_law_130 : decode c_L_law 130 = .ok (.iaload, 1) := by decide +kernel
theorem d_L_law_131 : decode c_L_law 131 = .ok (.invokevirtual 17, 3) := by decide +kernel
theorem d_L_law_134 : decode c_L_law 134 = .ok (.if_icmp .eq 502, 3) := by decide +kernel
theorem d_L_law_137 : decode c_L_law 137 = .ok (.iconst 0, 1) := by decide +kernel
theorem d_L_law_138 : decode c_L_law 138 = .ok (.ireturn, 1) := by decide +kernel
theorem d_L_law_139 : decode c_L_law 139 = .ok (.aload_n 1, 1) := by decide +kernel
theorem d_L_law_140 : decode c_L_law 140 = .ok (.aload_n 0, 1) := by decide +kernel
theorem d_L_law_141 : decode c_L_law 141 = .ok (.iload_n 3, 1) := by decide +kernel
theorem d_L_law_142 : decode c_L_law 142 = .ok (.iconst 1, 1) := by decide +kernel
theorem d_L_law_143 : decode c_L_law 143 = .ok (.iadd, 1) := by decide +kernel
theorem d_L_law_144 : decode c_L_law 144 = .ok (.iaload, 1) := by decide +kernel
theorem d_L_law_145 : decode c_L_law 145 = .ok (.aload_n 0, 1) := by decide +kernel
theorem d_L_law_146 : decode c_L_law 146 = .ok (.iload_n 3, 1) := by decide +kernel
theorem d_L_law_147 : decode c_L_law 147 = .ok (.iconst 2, 1) := by decide +kernel
theorem d_L_law_148 : decode c_L_law 148 = .ok (.iadd, 1) := by decide +kernel
theorem d_L_law_149 : decode c_L_law 149 = .ok (.iaload, 1) := by decide +kernel
theorem d_L_law_150 : decode c_L_law 150 = .ok (.ifCond .eq 7, 3) := by decide +kernel
theorem d_L_law_153 : decode c_L_law 153 = .ok (.iconst 1, 1) := by decide +kernel
theorem d_L_law_154 : decode c_L_law 154 = .ok (.goto 4, 3) := by decide +kernel
theorem d_L_law_157 : decode c_L_law 157 = .ok (.iconst 0, 1) := by decide +kernel
theorem d_L_law_158 : decode c_L_law 158 = .ok (.invokevirtual 18, 3) := by decide +kernel
theorem d_L_law_161 : decode c_L_law 161 = .ok (.aload_n 2, 1) := by decide +kernel
theorem d_L_law_162 : decode c_L_law 162 = .ok (.aload_n 0, 1) := by decide +kernel
theorem d_L_law_163 : decode c_L_law 163 = .ok (.iload_n 3, 1) := by decide +kernel
theorem d_L_law_164 : decode c_L_law 164 = .ok (.iconst 1, 1) := by decide +kernel
theorem d_L_law_165 : decode c_L_law 165 = .ok (.iadd, 1) := by decide +kernel
theorem d_L_law_166 : decode c_L_law 166 = .ok (.iaload, 1) := by decide +kernel
theorem d_L_law_167 : decode c_L_law 167 = .ok (.aload_n 0, 1) := by decide +kernel
theorem d_L_law_168 : decode c_L_law 168 = .ok (.iload_n 3, 1) := by decide +kernel
theorem d_L_law_169 : decode c_L_law 169 = .ok (.iconst 2, 1) := by decide +kernel
theorem d_L_law_170 : decode c_L_law 170 = .ok (.iadd, 1) := by decide +kernel
theorem d_L_law_171 : decode c_L_law 171 = .ok (.iaload, 1) := by decide +kernel
theorem d_L_law_172 : decode c_L_law 172 = .ok (.ifCond .eq 7, 3) := by decide +kernel
theorem d_L_law_175 : decode c_L_law 175 = .ok (.iconst 1, 1) := by decide +kernel
theorem d_L_law_176 : decode c_L_law 176 = .ok (.goto 4, 3) := by decide +kernel
theorem d_L_law_179 : decode c_L_law 179 = .ok (.iconst 0, 1) := by decide +kernel
theorem d_L_law_180 : decode c_L_law 180 = .ok (.invokevirtual 22, 3) := by decide +kernel
theorem d_L_law_183 : decode c_L_law 183 = .ok (.if_icmp .eq 453, 3) := by decide +kernel
theorem d_L_law_186 : decode c_L_law 186 = .ok (.iconst 0, 1) := by decide +kernel
theorem d_L_law_187 : decode c_L_law 187 = .ok (.ireturn, 1) := by decide +kernel
theorem d_L_law_188 : decode c_L_law 188 = .ok (.aload_n 1, 1) := by decide +kernel
theorem d_L_law_189 : decode c_L_law 189 = .ok (.invokevirtual 23, 3) := by decide +kernel
theorem d_L_law_192 : decode c_L_law 192 = .ok (.aload_n 2, 1) := by decide +kernel
theorem d_L_law_193 : decode c_L_law 193 = .ok (.invokevirtual 27, 3) := by decide +kernel
theorem d_L_law_196 : decode c_L_law 196 = .ok (.if_icmp .eq 440, 3) := by decide +kernel
theorem d_L_law_199 : decode c_L_law 199 = .ok (.iconst 0, 1) := by decide +kernel
theorem d_L_law_200 : decode c_L_law 200 = .ok (.ireturn, 1) := by decide +kernel
theorem d_L_law_201 : decode c_L_law 201 = .ok (.aload_n 1, 1) := by decide +kernel
theorem d_L_law_202 : decode c_L_law 202 = .ok (.aload_n 0, 1) := by decide +kernel
theorem d_L_law_203 : decode c_L_law 203 = .ok (.iload_n 3, 1) := by decide +kernel
theorem d_L_law_204 : decode c_L_law 204 = .ok (.iconst 1, 1) := by decide +kernel
theorem d_L_law_205 : decode c_L_law 205 = .ok (.iadd, 1) := by decide +kernel
theorem d_L_law_206 : decode c_L_law 206 = .ok (.iaload, 1) := by decide +kernel
theorem d_L_law_207 : decode c_L_law 207 = .ok (.aload_n 0, 1) := by decide +kernel
theorem d_L_law_208 : decode c_L_law 208 = .ok (.iload_n 3, 1) := by decide +kernel
theorem d_L_law_209 : decode c_L_law 209 = .ok (.iconst 2, 1) := by decide +kernel
theorem d_L_law_210 : decode c_L_law 210 = .ok (.iadd, 1) := by decide +kernel
theorem d_L_law_211 : decode c_L_law 211 = .ok (.iaload, 1) := by decide +kernel
theorem d_L_law_212 : decode c_L_law 212 = .ok (.aload_n 0, 1) := by decide +kernel
theorem d_L_law_213 : decode c_L_law 213 = .ok (.iload_n 3, 1) := by decide +kernel
theorem d_L_law_214 : decode c_L_law 214 = .ok (.iconst 3, 1) := by decide +kernel
theorem d_L_law_215 : decode c_L_law 215 = .ok (.iadd, 1) := by decide +kernel
theorem d_L_law_216 : decode c_L_law 216 = .ok (.iaload, 1) := by decide +kernel
theorem d_L_law_217 : decode c_L_law 217 = .ok (.invokevirtual 28, 3) := by decide +kernel
theorem d_L_law_220 : decode c_L_law 220 = .ok (.aload_n 2, 1) := by decide +kernel
theorem d_L_law_221 : decode c_L_law 221 = .ok (.aload_n 0, 1) := by decide +kernel
theorem d_L_law_222 : decode c_L_law 222 = .ok (.iload_n 3, 1) := by decide +kernel
theorem d_L_law_223 : decode c_L_law 223 = .ok (.iconst 1, 1) := by decide +kernel
theorem d_L_law_224 : decode c_L_law 224 = .ok (.iadd, 1) := by decide +kernel
theorem d_L_law_225 : decode c_L_law 225 = .ok (.iaload, 1) := by decide +kernel
theorem d_L_law_226 : decode c_L_law 226 = .ok (.aload_n 0, 1) := by decide +kernel
theorem d_L_law_227 : decode c_L_law 227 = .ok (.iload_n 3, 1) := by decide +kernel
theorem d_L_law_228 : decode c_L_law 228 = .ok (.iconst 2, 1) := by decide +kernel
theorem d_L_law_229 : decode c_L_law 229 = .ok (.iadd, 1) := by decide +kernel
theorem d_L_law_230 : decode c_L_law 230 = .ok (.iaload, 1) := by decide +kernel
theorem d_L_law_231 : decode c_L_law 231 = .ok (.aload_n 0, 1) := by decide +kernel
theorem d_L_law_232 : decode c_L_law 232 = .ok (.iload_n 3, 1) := by decide +kernel
theorem d_L_law_233 : decode c_L_law 233 = .ok (.iconst 3, 1) := by decide +kernel
theorem d_L_law_234 : decode c_L_law 234 = .ok (.iadd, 1) := by decide +kernel
theorem d_L_law_235 : decode c_L_law 235 = .ok (.iaload, 1) := by decide +kernel
theorem d_L_law_236 : decode c_L_law 236 = .ok (.invokevirtual 32, 3) := by decide +kernel
theorem d_L_law_239 : decode c_L_law 239 = .ok (.if_icmp .eq 397, 3) := by decide +kernel
theorem d_L_law_242 : decode c_L_law 242 = .ok (.iconst 0, 1) := by decide +kernel
theorem d_L_law_243 : decode c_L_law 243 = .ok (.ireturn, 1) := by decide +kernel
theorem d_L_law_244 : decode c_L_law 244 = .ok (.aload_n 1, 1) := by decide +kernel
theorem d_L_law_245 : decode c_L_law 245 = .ok (.aload_n 0, 1) := by decide +kernel
theorem d_L_law_246 : decode c_L_law 246 = .ok (.iload_n 3, 1) := by decide +kernel
theorem d_L_law_247 : decode c_L_law 247 = .ok (.iconst 1, 1) := by decide +kernel
theorem d_L_law_248 : decode c_L_law 248 = .ok (.iadd, 1) := by decide +kernel
theorem d_L_law_249 : decode c_L_law 249 = .ok (.iaload, 1) := by decide +kernel
theorem d_L_law_250 : decode c_L_law 250 = .ok (.aload_n 0, 1) := by decide +kernel
theorem d_L_law_251 : decode c_L_law 251 = .ok (.iload_n 3, 1) := by decide +kernel
theorem d_L_law_252 : decode c_L_law 252 = .ok (.iconst 2, 1) := by decide +kernel
theorem d_L_law_253 : decode c_L_law 253 = .ok (.iadd, 1) := by decide +kernel
theorem d_L_law_254 : decode c_L_law 254 = .ok (.iaload, 1) := by decide +kernel
theorem d_L_law_255 : decode c_L_law 255 = .ok (.aload_n 0, 1) := by decide +kernel
theorem d_L_law_256 : decode c_L_law 256 = .ok (.iload_n 3, 1) := by decide +kernel
theorem d_L_law_257 : decode c_L_law 257 = .ok (.iconst 3, 1) := by decide +kernel
theorem d_L_law_258 : decode c_L_law 258 = .ok (.iadd, 1) := by decide +kernel
theorem d_L_law_259 : decode c_L_law 259 = .ok (.iaload, 1) := by decide +kernel
theorem d_L_law_260 : decode c_L_law 260 = .ok (.invokevirtual 33, 3) := by decide +kernel
theorem d_L_law_263 : decode c_L_law 263 = .ok (.aload_n 2, 1) := by decide +kernel
theorem d_L_law_264 : decode c_L_law 264 = .ok (.aload_n 0, 1) := by decide +kernel
theorem d_L_law_265 : decode c_L_law 265 = .ok (.iload_n 3, 1) := by decide +kernel
theorem d_L_law_266 : decode c_L_law 266 = .ok (.iconst 1, 1) := by decide +kernel
theorem d_L_law_267 : decode c_L_law 267 = .ok (.iadd, 1) := by decide +kernel
theorem d_L_law_268 : decode c_L_law 268 = .ok (.iaload, 1) := by decide +kernel
theorem d_L_law_269 : decode c_L_law 269 = .ok (.aload_n 0, 1) := by decide +kernel
theorem d_L_law_270 : decode c_L_law 270 = .ok (.iload_n 3, 1) := by decide +kernel
theorem d_L_law_271 : decode c_L_law 271 = .ok (.iconst 2, 1) := by decide +kernel
theorem d_L_law_272 : decode c_L_law 272 = .ok (.iadd, 1) := by decide +kernel
theorem d_L_law_273 : decode c_L_law 273 = .ok (.iaload, 1) := by decide +kernel
theorem d_L_law_274 : decode c_L_law 274 = .ok (.aload_n 0, 1) := by decide +kernel
theorem d_L_law_275 : decode c_L_law 275 = .ok (.iload_n 3, 1) := by decide +kernel
theorem d_L_law_276 : decode c_L_law 276 = .ok (.iconst 3, 1) := by decide +kernel
theorem d_L_law_277 : decode c_L_law 277 = .ok (.iadd, 1) := by decide +kernel
theorem d_L_law_278 : decode c_L_law 278 = .ok (.iaload, 1) := by decide +kernel
theorem d_L_law_279 : decode c_L_law 279 = .ok (.invokevirtual 36, 3) := by decide +kernel
theorem d_L_law_282 : decode c_L_law 282 = .ok (.if_icmp .eq 354, 3) := by decide +kernel
theorem d_L_law_285 : decode c_L_law 285 = .ok (.iconst 0, 1) := by decide +kernel
theorem d_L_law_286 : decode c_L_law 286 = .ok (.ireturn, 1) := by decide +kernel
theorem d_L_law_287 : decode c_L_law 287 = .ok (.aload_n 1, 1) := by decide +kernel
theorem d_L_law_288 : decode c_L_law 288 = .ok (.aload_n 0, 1) := by decide +kernel
theorem d_L_law_289 : decode c_L_law 289 = .ok (.iload_n 3, 1) := by decide +kernel
theorem d_L_law_290 : decode c_L_law 290 = .ok (.iconst 1, 1) := by decide +kernel
theorem d_L_law_291 : decode c_L_law 291 = .ok (.iadd, 1) := by decide +kernel
theorem d_L_law_292 : decode c_L_law 292 = .ok (.iaload, 1) := by decide +kernel
theorem d_L_law_293 : decode c_L_law 293 = .ok (.aload_n 0, 1) := by decide +kernel
theorem d_L_law_294 : decode c_L_law 294 = .ok (.iload_n 3, 1) := by decide +kernel
theorem d_L_law_295 : decode c_L_law 295 = .ok (.iconst 2, 1) := by decide +kernel
theorem d_L_law_296 : decode c_L_law 296 = .ok (.iadd, 1) := by decide +kernel
theorem d_L_law_297 : decode c_L_law 297 = .ok (.iaload, 1) := by decide +kernel
theorem d_L_law_298 : decode c_L_law 298 = .ok (.aload_n 0, 1) := by decide +kernel
theorem d_L_law_299 : decode c_L_law 299 = .ok (.iload_n 3, 1) := by decide +kernel
theorem d_L_law_300 : decode c_L_law 300 = .ok (.iconst 3, 1) := by decide +kernel
theorem d_L_law_301 : decode c_L_law 301 = .ok (.iadd, 1) := by decide +kernel
theorem d_L_law_302 : decode c_L_law 302 = .ok (.iaload, 1) := by decide +kernel
theorem d_L_law_303 : decode c_L_law 303 = .ok (.invokevirtual 37, 3) := by decide +kernel
theorem d_L_law_306 : decode c_L_law 306 = .ok (.aload_n 2, 1) := by decide +kernel
theorem d_L_law_307 : decode c_L_law 307 = .ok (.aload_n 0, 1) := by decide +kernel
theorem d_L_law_308 : decode c_L_law 308 = .ok (.iload_n 3, 1) := by decide +kernel
theorem d_L_law_309 : decode c_L_law 309 = .ok (.iconst 1, 1) := by decide +kernel
theorem d_L_law_310 : decode c_L_law 310 = .ok (.iadd, 1) := by decide +kernel
theorem d_L_law_311 : decode c_L_law 311 = .ok (.iaload, 1) := by decide +kernel
theorem d_L_law_312 : decode c_L_law 312 = .ok (.aload_n 0, 1) := by decide +kernel
theorem d_L_law_313 : decode c_L_law 313 = .ok (.iload_n 3, 1) := by decide +kernel
theorem d_L_law_314 : decode c_L_law 314 = .ok (.iconst 2, 1) := by decide +kernel
theorem d_L_law_315 : decode c_L_law 315 = .ok (.iadd, 1) := by decide +kernel
theorem d_L_law_316 : decode c_L_law 316 = .ok (.iaload, 1) := by decide +kernel
theorem d_L_law_317 : decode c_L_law 317 = .ok (.aload_n 0, 1) := by decide +kernel
theorem d_L_law_318 : decode c_L_law 318 = .ok (.iload_n 3, 1) := by decide +kernel
theorem d_L_law_319 : decode c_L_law 319 = .ok (.iconst 3, 1) := by decide +kernel
theorem d_L_law_320 : decode c_L_law 320 = .ok (.iadd, 1) := by decide +kernel
theorem d_L_law_321 : decode c_L_law 321 = .ok (.iaload, 1) := by decide +kernel
theorem d_L_law_322 : decode c_L_law 322 = .ok (.invokevirtual 40, 3) := by decide +kernel
theorem d_L_law_325 : decode c_L_law 325 = .ok (.if_icmp .eq 311, 3) := by decide +kernel
theorem d_L_law_328 : decode c_L_law 328 = .ok (.iconst 0, 1) := by decide +kernel
theorem d_L_law_329 : decode c_L_law 329 = .ok (.ireturn, 1) := by decide +kernel
theorem d_L_law_330 : decode c_L_law 330 = .ok (.aload_n 1, 1) := by decide +kernel
theorem d_L_law_331 : decode c_L_law 331 = .ok (.aload_n 0, 1) := by decide +kernel
theorem d_L_law_332 : decode c_L_law 332 = .ok (.iload_n 3, 1) := by decide +kernel
theorem d_L_law_333 : decode c_L_law 333 = .ok (.iconst 1, 1) := by decide +kernel
theorem d_L_law_334 : decode c_L_law 334 = .ok (.iadd, 1) := by decide +kernel
theorem d_L_law_335 : decode c_L_law 335 = .ok (.iaload, 1) := by decide +kernel
theorem d_L_law_336 : decode c_L_law 336 = .ok (.aload_n 0, 1) := by decide +kernel
theorem d_L_law_337 : decode c_L_law 337 = .ok (.iload_n 3, 1) := by decide +kernel
theorem d_L_law_338 : decode c_L_law 338 = .ok (.iconst 2, 1) := by decide +kernel
theorem d_L_law_339 : decode c_L_law 339 = .ok (.iadd, 1) := by decide +kernel
theorem d_L_law_340 : decode c_L_law 340 = .ok (.iaload, 1) := by decide +kernel
theorem d_L_law_341 : decode c_L_law 341 = .ok (.invokevirtual 41, 3) := by decide +kernel
theorem d_L_law_344 : decode c_L_law 344 = .ok (.aload_n 2, 1) := by decide +kernel
theorem d_L_law_345 : decode c_L_law 345 = .ok (.aload_n 0, 1) := by decide +kernel
theorem d_L_law_346 : decode c_L_law 346 = .ok (.iload_n 3, 1) := by decide +kernel
theorem d_L_law_347 : decode c_L_law 347 = .ok (.iconst 1, 1) := by decide +kernel
theorem d_L_law_348 : decode c_L_law 348 = .ok (.iadd, 1) := by decide +kernel
theorem d_L_law_349 : decode c_L_law 349 = .ok (.iaload, 1) := by decide +kernel
theorem d_L_law_350 : decode c_L_law 350 = .ok (.aload_n 0, 1) := by decide +kernel
theorem d_L_law_351 : decode c_L_law 351 = .ok (.iload_n 3, 1) := by decide +kernel
theorem d_L_law_352 : decode c_L_law 352 = .ok (.iconst 2, 1) := by decide +kernel
theorem d_L_law_353 : decode c_L_law 353 = .ok (.iadd, 1) := by decide +kernel
theorem d_L_law_354 : decode c_L_law 354 = .ok (.iaload, 1) := by decide +kernel
theorem d_L_law_355 : decode c_L_law 355 = .ok (.invokevirtual 45, 3) := by decide +kernel
theorem d_L_law_358 : decode c_L_law 358 = .ok (.if_icmp .eq 278, 3) := by decide +kernel
theorem d_L_law_361 : decode c_L_law 361 = .ok (.iconst 0, 1) := by decide +kernel
theorem d_L_law_362 : decode c_L_law 362 = .ok (.ireturn, 1) := by decide +kernel
theorem d_L_law_363 : decode c_L_law 363 = .ok (.aload_n 1, 1) := by decide +kernel
theorem d_L_law_364 : decode c_L_law 364 = .ok (.invokevirtual 46, 3) := by decide +kernel
theorem d_L_law_367 : decode c_L_law 367 = .ok (.aload_n 2, 1) := by decide +kernel
theorem d_L_law_368 : decode c_L_law 368 = .ok (.invokevirtual 49, 3) := by decide +kernel
theorem d_L_law_371 : decode c_L_law 371 = .ok (.if_icmp .eq 265, 3) := by decide +kernel
theorem d_L_law_374 : decode c_L_law 374 = .ok (.iconst 0, 1) := by decide +kernel
theorem d_L_law_375 : decode c_L_law 375 = .ok (.ireturn, 1) := by decide +kernel
theorem d_L_law_376 : decode c_L_law 376 = .ok (.aload_n 1, 1) := by decide +kernel
theorem d_L_law_377 : decode c_L_law 377 = .ok (.invokevirtual 50, 3) := by decide +kernel
theorem d_L_law_380 : decode c_L_law 380 = .ok (.aload_n 2, 1) := by decide +kernel
theorem d_L_law_381 : decode c_L_law 381 = .ok (.invokevirtual 53, 3) := by decide +kernel
theorem d_L_law_384 : decode c_L_law 384 = .ok (.if_icmp .eq 252, 3) := by decide +kernel
theorem d_L_law_387 : decode c_L_law 387 = .ok (.iconst 0, 1) := by decide +kernel
theorem d_L_law_388 : decode c_L_law 388 = .ok (.ireturn, 1) := by decide +kernel
theorem d_L_law_389 : decode c_L_law 389 = .ok (.aload_n 1, 1) := by decide +kernel
theorem d_L_law_390 : decode c_L_law 390 = .ok (.aload_n 0, 1) := by decide +kernel
theorem d_L_law_391 : decode c_L_law 391 = .ok (.iload_n 3, 1) := by decide +kernel
theorem d_L_law_392 : decode c_L_law 392 = .ok (.iconst 1, 1) := by decide +kernel
theorem d_L_law_393 : decode c_L_law 393 = .ok (.iadd, 1) := by decide +kernel
theorem d_L_law_394 : decode c_L_law 394 = .ok (.iaload, 1) := by decide +kernel
theorem d_L_law_395 : decode c_L_law 395 = .ok (.aload_n 0, 1) := by decide +kernel
theorem d_L_law_396 : decode c_L_law 396 = .ok (.iload_n 3, 1) := by decide +kernel
theorem d_L_law_397 : decode c_L_law 397 = .ok (.iconst 2, 1) := by decide +kernel
theorem d_L_law_398 : decode c_L_law 398 = .ok (.iadd, 1) := by decide +kernel
theorem d_L_law_399 : decode c_L_law 399 = .ok (.iaload, 1) := by decide +kernel
theorem d_L_law_400 : decode c_L_law 400 = .ok (.invokevirtual 54, 3) := by decide +kernel
theorem d_L_law_403 : decode c_L_law 403 = .ok (.aload_n 2, 1) := by decide +kernel
theorem d_L_law_404 : decode c_L_law 404 = .ok (.aload_n 0, 1) := by decide +kernel
theorem d_L_law_405 : decode c_L_law 405 = .ok (.iload_n 3, 1) := by decide +kernel
theorem d_L_law_406 : decode c_L_law 406 = .ok (.iconst 1, 1) := by decide +kernel
theorem d_L_law_407 : decode c_L_law 407 = .ok (.iadd, 1) := by decide +kernel
theorem d_L_law_408 : decode c_L_law 408 = .ok (.iaload, 1) := by decide +kernel
theorem d_L_law_409 : decode c_L_law 409 = .ok (.aload_n 0, 1) := by decide +kernel
theorem d_L_law_410 : decode c_L_law 410 = .ok (.iload_n 3, 1) := by decide +kernel
theorem d_L_law_411 : decode c_L_law 411 = .ok (.iconst 2, 1) := by decide +kernel
theorem d_L_law_412 : decode c_L_law 412 = .ok (.iadd, 1) := by decide +kernel
theorem d_L_law_413 : decode c_L_law 413 = .ok (.iaload, 1) := by decide +kernel
theorem d_L_law_414 : decode c_L_law 414 = .ok (.invokevirtual 58, 3) := by decide +kernel
theorem d_L_law_417 : decode c_L_law 417 = .ok (.lcmp, 1) := by decide +kernel
theorem d_L_law_418 : decode c_L_law 418 = .ok (.ifCond .eq 218, 3) := by decide +kernel
theorem d_L_law_421 : decode c_L_law 421 = .ok (.iconst 0, 1) := by decide +kernel
theorem d_L_law_422 : decode c_L_law 422 = .ok (.ireturn, 1) := by decide +kernel
theorem d_L_law_423 : decode c_L_law 423 = .ok (.aload_n 1, 1) := by decide +kernel
theorem d_L_law_424 : decode c_L_law 424 = .ok (.aload_n 0, 1) := by decide +kernel
theorem d_L_law_425 : decode c_L_law 425 = .ok (.iload_n 3, 1) := by decide +kernel
theorem d_L_law_426 : decode c_L_law 426 = .ok (.iconst 1, 1) := by decide +kernel
theorem d_L_law_427 : decode c_L_law 427 = .ok (.iadd, 1) := by decide +kernel
theorem d_L_law_428 : decode c_L_law 428 = .ok (.iaload, 1) := by decide +kernel
theorem d_L_law_429 : decode c_L_law 429 = .ok (.aload_n 0, 1) := by decide +kernel
theorem d_L_law_430 : decode c_L_law 430 = .ok (.iload_n 3, 1) := by decide +kernel
theorem d_L_law_431 : decode c_L_law 431 = .ok (.iconst 2, 1) := by decide +kernel
theorem d_L_law_432 : decode c_L_law 432 = .ok (.iadd, 1) := by decide +kernel
theorem d_L_law_433 : decode c_L_law 433 = .ok (.iaload, 1) := by decide +kernel
theorem d_L_law_434 : decode c_L_law 434 = .ok (.invokevirtual 59, 3) := by decide +kernel
theorem d_L_law_437 : decode c_L_law 437 = .ok (.aload_n 2, 1) := by decide +kernel
theorem d_L_law_438 : decode c_L_law 438 = .ok (.aload_n 0, 1) := by decide +kernel
theorem d_L_law_439 : decode c_L_law 439 = .ok (.iload_n 3, 1) := by decide +kernel
theorem d_L_law_440 : decode c_L_law 440 = .ok (.iconst 1, 1) := by decide +kernel
theorem d_L_law_441 : decode c_L_law 441 = .ok (.iadd, 1) := by decide +kernel
theorem d_L_law_442 : decode c_L_law 442 = .ok (.iaload, 1) := by decide +kernel
theorem d_L_law_443 : decode c_L_law 443 = .ok (.aload_n 0, 1) := by decide +kernel
theorem d_L_law_444 : decode c_L_law 444 = .ok (.iload_n 3, 1) := by decide +kernel
theorem d_L_law_445 : decode c_L_law 445 = .ok (.iconst 2, 1) := by decide +kernel
theorem d_L_law_446 : decode c_L_law 446 = .ok (.iadd, 1) := by decide +kernel
theorem d_L_law_447 : decode c_L_law 447 = .ok (.iaload, 1) := by decide +kernel
theorem d_L_law_448 : decode c_L_law 448 = .ok (.invokevirtual 62, 3) := by decide +kernel
theorem d_L_law_451 : decode c_L_law 451 = .ok (.lcmp, 1) := by decide +kernel
theorem d_L_law_452 : decode c_L_law 452 = .ok (.ifCond .eq 184, 3) := by decide +kernel
theorem d_L_law_455 : decode c_L_law 455 = .ok (.iconst 0, 1) := by decide +kernel
theorem d_L_law_456 : decode c_L_law 456 = .ok (.ireturn, 1) := by decide +kernel
theorem d_L_law_457 : decode c_L_law 457 = .ok (.aload_n 1, 1) := by decide +kernel
theorem d_L_law_458 : decode c_L_law 458 = .ok (.aload_n 0, 1) := by decide +kernel
theorem d_L_law_459 : decode c_L_law 459 = .ok (.iload_n 3, 1) := by decide +kernel
theorem d_L_law_460 : decode c_L_law 460 = .ok (.iconst 1, 1) := by decide +kernel
theorem d_L_law_461 : decode c_L_law 461 = .ok (.iadd, 1) := by decide +kernel
theorem d_L_law_462 : decode c_L_law 462 = .ok (.iaload, 1) := by decide +kernel
theorem d_L_law_463 : decode c_L_law 463 = .ok (.aload_n 0, 1) := by decide +kernel
theorem d_L_law_464 : decode c_L_law 464 = .ok (.iload_n 3, 1) := by decide +kernel
theorem d_L_law_465 : decode c_L_law 465 = .ok (.iconst 2, 1) := by decide +kernel
theorem d_L_law_466 : decode c_L_law 466 = .ok (.iadd, 1) := by decide +kernel
theorem d_L_law_467 : decode c_L_law 467 = .ok (.iaload, 1) := by decide +kernel
theorem d_L_law_468 : decode c_L_law 468 = .ok (.invokevirtual 63, 3) := by decide +kernel
theorem d_L_law_471 : decode c_L_law 471 = .ok (.aload_n 2, 1) := by decide +kernel
theorem d_L_law_472 : decode c_L_law 472 = .ok (.aload_n 0, 1) := by decide +kernel
theorem d_L_law_473 : decode c_L_law 473 = .ok (.iload_n 3, 1) := by decide +kernel
theorem d_L_law_474 : decode c_L_law 474 = .ok (.iconst 1, 1) := by decide +kernel
theorem d_L_law_475 : decode c_L_law 475 = .ok (.iadd, 1) := by decide +kernel
theorem d_L_law_476 : decode c_L_law 476 = .ok (.iaload, 1) := by decide +kernel
theorem d_L_law_477 : decode c_L_law 477 = .ok (.aload_n 0, 1) := by decide +kernel
theorem d_L_law_478 : decode c_L_law 478 = .ok (.iload_n 3, 1) := by decide +kernel
theorem d_L_law_479 : decode c_L_law 479 = .ok (.iconst 2, 1) := by decide +kernel
theorem d_L_law_480 : decode c_L_law 480 = .ok (.iadd, 1) := by decide +kernel
theorem d_L_law_481 : decode c_L_law 481 = .ok (.iaload, 1) := by decide +kernel
theorem d_L_law_482 : decode c_L_law 482 = .ok (.invokevirtual 66, 3) := by decide +kernel
theorem d_L_law_485 : decode c_L_law 485 = .ok (.lcmp, 1) := by decide +kernel
theorem d_L_law_486 : decode c_L_law 486 = .ok (.ifCond .eq 150, 3) := by decide +kernel
theorem d_L_law_489 : decode c_L_law 489 = .ok (.iconst 0, 1) := by decide +kernel
theorem d_L_law_490 : decode c_L_law 490 = .ok (.ireturn, 1) := by decide +kernel
theorem d_L_law_491 : decode c_L_law 491 = .ok (.aload_n 1, 1) := by decide +kernel
theorem d_L_law_492 : decode c_L_law 492 = .ok (.aload_n 0, 1) := by decide +kernel
theorem d_L_law_493 : decode c_L_law 493 = .ok (.iload_n 3, 1) := by decide +kernel
theorem d_L_law_494 : decode c_L_law 494 = .ok (.iconst 1, 1) := by decide +kernel
theorem d_L_law_495 : decode c_L_law 495 = .ok (.iadd, 1) := by decide +kernel
theorem d_L_law_496 : decode c_L_law 496 = .ok (.iaload, 1) := by decide +kernel
theorem d_L_law_497 : decode c_L_law 497 = .ok (.aload_n 0, 1) := by decide +kernel
theorem d_L_law_498 : decode c_L_law 498 = .ok (.iload_n 3, 1) := by decide +kernel
theorem d_L_law_499 : decode c_L_law 499 = .ok (.iconst 2, 1) := by decide +kernel
theorem d_L_law_500 : decode c_L_law 500 = .ok (.iadd, 1) := by decide +kernel
theorem d_L_law_501 : decode c_L_law 501 = .ok (.iaload, 1) := by decide +kernel
theorem d_L_law_502 : decode c_L_law 502 = .ok (.invokevirtual 67, 3) := by decide +kernel
theorem d_L_law_505 : decode c_L_law 505 = .ok (.aload_n 2, 1) := by decide +kernel
theorem d_L_law_506 : decode c_L_law 506 = .ok (.aload_n 0, 1) := by decide +kernel
theorem d_L_law_507 : decode c_L_law 507 = .ok (.iload_n 3, 1) := by decide +kernel
theorem d_L_law_508 : decode c_L_law 508 = .ok (.iconst 1, 1) := by decide +kernel
theorem d_L_law_509 : decode c_L_law 509 = .ok (.iadd, 1) := by decide +kernel
theorem d_L_law_510 : decode c_L_law 510 = .ok (.iaload, 1) := by decide +kernel
theorem d_L_law_511 : decode c_L_law 511 = .ok (.aload_n 0, 1) := by decide +kernel
theorem d_L_law_512 : decode c_L_law 512 = .ok (.iload_n 3, 1) := by decide +kernel
theorem d_L_law_513 : decode c_L_law 513 = .ok (.iconst 2, 1) := by decide +kernel
theorem d_L_law_514 : decode c_L_law 514 = .ok (.iadd, 1) := by decide +kernel
theorem d_L_law_515 : decode c_L_law 515 = .ok (.iaload, 1) := by decide +kernel
theorem d_L_law_516 : decode c_L_law 516 = .ok (.invokevirtual 70, 3) := by decide +kernel
theorem d_L_law_519 : decode c_L_law 519 = .ok (.if_icmp .eq 117, 3) := by decide +kernel
theorem d_L_law_522 : decode c_L_law 522 = .ok (.iconst 0, 1) := by decide +kernel
theorem d_L_law_523 : decode c_L_law 523 = .ok (.ireturn, 1) := by decide +kernel
theorem d_L_law_524 : decode c_L_law 524 = .ok (.aload_n 1, 1) := by decide +kernel
theorem d_L_law_525 : decode c_L_law 525 = .ok (.aload_n 0, 1) := by decide +kernel
theorem d_L_law_526 : decode c_L_law 526 = .ok (.iload_n 3, 1) := by decide +kernel
theorem d_L_law_527 : decode c_L_law 527 = .ok (.iconst 1, 1) := by decide +kernel
theorem d_L_law_528 : decode c_L_law 528 = .ok (.iadd, 1) := by decide +kernel
theorem d_L_law_529 : decode c_L_law 529 = .ok (.iaload, 1) := by decide +kernel
theorem d_L_law_530 : decode c_L_law 530 = .ok (.invokevirtual 71, 3) := by decide +kernel
theorem d_L_law_533 : decode c_L_law 533 = .ok (.aload_n 2, 1) := by decide +kernel
theorem d_L_law_534 : decode c_L_law 534 = .ok (.aload_n 0, 1) := by decide +kernel
theorem d_L_law_535 : decode c_L_law 535 = .ok (.iload_n 3, 1) := by decide +kernel
theorem d_L_law_536 : decode c_L_law 536 = .ok (.iconst 1, 1) := by decide +kernel
theorem d_L_law_537 : decode c_L_law 537 = .ok (.iadd, 1) := by decide +kernel
theorem d_L_law_538 : decode c_L_law 538 = .ok (.iaload, 1) := by decide +kernel
theorem d_L_law_539 : decode c_L_law 539 = .ok (.invokevirtual 74, 3) := by decide +kernel
theorem d_L_law_542 : decode c_L_law 542 = .ok (.if_icmp .eq 94, 3) := by decide +kernel
theorem d_L_law_545 : decode c_L_law 545 = .ok (.iconst 0, 1) := by decide +kernel
theorem d_L_law_546 : decode c_L_law 546 = .ok (.ireturn, 1) := by decide +kernel
theorem d_L_law_547 : decode c_L_law 547 = .ok (.aload_n 1, 1) := by decide +kernel
theorem d_L_law_548 : decode c_L_law 548 = .ok (.aload_n 0, 1) := by decide +kernel
theorem d_L_law_549 : decode c_L_law 549 = .ok (.iload_n 3, 1) := by decide +kernel
theorem d_L_law_550 : decode c_L_law 550 = .ok (.iconst 1, 1) := by decide +kernel
theorem d_L_law_551 : decode c_L_law 551 = .ok (.iadd, 1) := by decide +kernel
theorem d_L_law_552 : decode c_L_law 552 = .ok (.iaload, 1) := by decide +kernel
theorem d_L_law_553 : decode c_L_law 553 = .ok (.aload_n 0, 1) := by decide +kernel
theorem d_L_law_554 : decode c_L_law 554 = .ok (.iload_n 3, 1) := by decide +kernel
theorem d_L_law_555 : decode c_L_law 555 = .ok (.iconst 2, 1) := by decide +kernel
theorem d_L_law_556 : decode c_L_law 556 = .ok (.iadd, 1) := by decide +kernel
theorem d_L_law_557 : decode c_L_law 557 = .ok (.iaload, 1) := by decide +kernel
theorem d_L_law_558 : decode c_L_law 558 = .ok (.invokevirtual 75, 3) := by decide +kernel
theorem d_L_law_561 : decode c_L_law 561 = .ok (.aload_n 2, 1) := by decide +kernel
theorem d_L_law_562 : decode c_L_law 562 = .ok (.aload_n 0, 1) := by decide +kernel
theorem d_L_law_563 : decode c_L_law 563 = .ok (.iload_n 3, 1) := by decide +kernel
theorem d_L_law_564 : decode c_L_law 564 = .ok (.iconst 1, 1) := by decide +kernel
theorem d_L_law_565 : decode c_L_law 565 = .ok (.iadd, 1) := by decide +kernel
theorem d_L_law_566 : decode c_L_law 566 = .ok (.iaload, 1) := by decide +kernel
theorem d_L_law_567 : decode c_L_law 567 = .ok (.aload_n 0, 1) := by decide +kernel
theorem d_L_law_568 : decode c_L_law 568 = .ok (.iload_n 3, 1) := by decide +kernel
theorem d_L_law_569 : decode c_L_law 569 = .ok (.iconst 2, 1) := by decide +kernel
theorem d_L_law_570 : decode c_L_law 570 = .ok (.iadd, 1) := by decide +kernel
theorem d_L_law_571 : decode c_L_law 571 = .ok (.iaload, 1) := by decide +kernel
theorem d_L_law_572 : decode c_L_law 572 = .ok (.invokevirtual 78, 3) := by decide +kernel
theorem d_L_law_575 : decode c_L_law 575 = .ok (.if_icmp .eq 61, 3) := by decide +kernel
theorem d_L_law_578 : decode c_L_law 578 = .ok (.iconst 0, 1) := by decide +kernel
theorem d_L_law_579 : decode c_L_law 579 = .ok (.ireturn, 1) := by decide +kernel
theorem d_L_law_580 : decode c_L_law 580 = .ok (.aload_n 1, 1) := by decide +kernel
theorem d_L_law_581 : decode c_L_law 581 = .ok (.aload_n 0, 1) := by decide +kernel
theorem d_L_law_582 : decode c_L_law 582 = .ok (.iload_n 3, 1) := by decide +kernel
theorem d_L_law_583 : decode c_L_law 583 = .ok (.iconst 1, 1) := by decide +kernel
theorem d_L_law_584 : decode c_L_law 584 = .ok (.iadd, 1) := by decide +kernel
theorem d_L_law_585 : decode c_L_law 585 = .ok (.iaload, 1) := by decide +kernel
theorem d_L_law_586 : decode c_L_law 586 = .ok (.aload_n 0, 1) := by decide +kernel
theorem d_L_law_587 : decode c_L_law 587 = .ok (.iload_n 3, 1) := by decide +kernel
theorem d_L_law_588 : decode c_L_law 588 = .ok (.iconst 2, 1) := by decide +kernel
theorem d_L_law_589 : decode c_L_law 589 = .ok (.iadd, 1) := by decide +kernel
theorem d_L_law_590 : decode c_L_law 590 = .ok (.iaload, 1) := by decide +kernel
theorem d_L_law_591 : decode c_L_law 591 = .ok (.invokevirtual 79, 3) := by decide +kernel
theorem d_L_law_594 : decode c_L_law 594 = .ok (.aload_n 2, 1) := by decide +kernel
theorem d_L_law_595 : decode c_L_law 595 = .ok (.aload_n 0, 1) := by decide +kernel
theorem d_L_law_596 : decode c_L_law 596 = .ok (.iload_n 3, 1) := by decide +kernel
theorem d_L_law_597 : decode c_L_law 597 = .ok (.iconst 1, 1) := by decide +kernel
theorem d_L_law_598 : decode c_L_law 598 = .ok (.iadd, 1) := by decide +kernel
theorem d_L_law_599 : decode c_L_law 599 = .ok (.iaload, 1) := by decide +kernel
theorem d_L_law_600 : decode c_L_law 600 = .ok (.aload_n 0, 1) := by decide +kernel
theorem d_L_law_601 : decode c_L_law 601 = .ok (.iload_n 3, 1) := by decide +kernel
theorem d_L_law_602 : decode c_L_law 602 = .ok (.iconst 2, 1) := by decide +kernel
theorem d_L_law_603 : decode c_L_law 603 = .ok (.iadd, 1) := by decide +kernel
theorem d_L_law_604 : decode c_L_law 604 = .ok (.iaload, 1) := by decide +kernel
theorem d_L_law_605 : decode c_L_law 605 = .ok (.invokevirtual 82, 3) := by decide +kernel
theorem d_L_law_608 : decode c_L_law 608 = .ok (.if_icmp .eq 28, 3) := by decide +kernel
theorem d_L_law_611 : decode c_L_law 611 = .ok (.iconst 0, 1) := by decide +kernel
theorem d_L_law_612 : decode c_L_law 612 = .ok (.ireturn, 1) := by decide +kernel
theorem d_L_law_613 : decode c_L_law 613 = .ok (.aload_n 1, 1) := by decide +kernel
theorem d_L_law_614 : decode c_L_law 614 = .ok (.aload_n 0, 1) := by decide +kernel
theorem d_L_law_615 : decode c_L_law 615 = .ok (.iload_n 3, 1) := by decide +kernel
theorem d_L_law_616 : decode c_L_law 616 = .ok (.iconst 1, 1) := by decide +kernel
theorem d_L_law_617 : decode c_L_law 617 = .ok (.iadd, 1) := by decide +kernel
theorem d_L_law_618 : decode c_L_law 618 = .ok (.iaload, 1) := by decide +kernel
theorem d_L_law_619 : decode c_L_law 619 = .ok (.invokevirtual 83, 3) := by decide +kernel
theorem d_L_law_622 : decode c_L_law 622 = .ok (.aload_n 2, 1) := by decide +kernel
theorem d_L_law_623 : decode c_L_law 623 = .ok (.aload_n 0, 1) := by decide +kernel
theorem d_L_law_624 : decode c_L_law 624 = .ok (.iload_n 3, 1) := by decide +kernel
theorem d_L_law_625 : decode c_L_law 625 = .ok (.iconst 1, 1) := by decide +kernel
theorem d_L_law_626 : decode c_L_law 626 = .ok (.iadd, 1) := by decide +kernel
theorem d_L_law_627 : decode c_L_law 627 = .ok (.iaload, 1) := by decide +kernel
theorem d_L_law_628 : decode c_L_law 628 = .ok (.invokevirtual 86, 3) := by decide +kernel
theorem d_L_law_631 : decode c_L_law 631 = .ok (.if_icmp .eq 5, 3) := by decide +kernel
theorem d_L_law_634 : decode c_L_law 634 = .ok (.iconst 0, 1) := by decide +kernel
theorem d_L_law_635 : decode c_L_law 635 = .ok (.ireturn, 1) := by decide +kernel
theorem d_L_law_636 : decode c_L_law 636 = .ok (.iinc 3 4, 3) := by decide +kernel
theorem d_L_law_639 : decode c_L_law 639 = .ok (.goto (-621), 3) := by decide +kernel
theorem d_L_law_642 : decode c_L_law 642 = .ok (.iconst 1, 1) := by decide +kernel
theorem d_L_law_643 : decode c_L_law 643 = .ok (.ireturn, 1) := by decide +kernel
end
section
theorem d_M_init_0 : decode c_M_init 0 = .ok (.aload_n 0, 1) := by decide +kernel
theorem d_M_init_1 : decode c_M_init 1 = .ok (.invokespecial 1, 3) := by decide +kernel
theorem d_M_init_4 : decode c_M_init 4 = .ok (.aload_n 0, 1) := by decide +kernel
theorem d_M_init_5 : decode c_M_init 5 = .ok (.iconst 3, 1) := by decide +kernel
theorem d_M_init_6 : decode c_M_init 6 = .ok (.newarray .int, 2) := by decide +kernel
theorem d_M_init_8 : decode c_M_init 8 = .ok (.putfield 7, 3) := by decide +kernel
theorem d_M_init_11 : decode c_M_init 11 = .ok (.aload_n 0, 1) := by decide +kernel
theorem d_M_init_12 : decode c_M_init 12 = .ok (.iconst 1, 1) := by decide +kernel
theorem d_M_init_13 : decode c_M_init 13 = .ok (.putfield 13, 3) := by decide +kernel
theorem d_M_init_16 : decode c_M_init 16 = .ok (.aload_n 0, 1) := by decide +kernel
theorem d_M_init_17 : decode c_M_init 17 = .ok (.iconst 4, 1) := by decide +kernel
theorem d_M_init_18 : decode c_M_init 18 = .ok (.newarray .int, 2) := by decide +kernel
theorem d_M_init_20 : decode c_M_init 20 = .ok (.putfield 17, 3) := by decide +kernel
theorem d_M_init_23 : decode c_M_init 23 = .ok (.aload_n 0, 1) := by decide +kernel
theorem d_M_init_24 : decode c_M_init 24 = .ok (.iconst 4, 1) := by decide +kernel
theorem d_M_init_25 : decode c_M_init 25 = .ok (.newarray .boolean, 2) := by decide +kernel
theorem d_M_init_27 : decode c_M_init 27 = .ok (.putfield 20, 3) := by decide +kernel
theorem d_M_init_30 : decode c_M_init 30 = .ok (.aload_n 0, 1) := by decide +kernel
theorem d_M_init_31 : decode c_M_init 31 = .ok (.bipush 36, 2) := by decide +kernel
theorem d_M_init_33 : decode c_M_init 33 = .ok (.newarray .int, 2) := by decide +kernel
theorem d_M_init_35 : decode c_M_init 35 = .ok (.putfield 24, 3) := by decide +kernel
theorem d_M_init_38 : decode c_M_init 38 = .ok (.aload_n 0, 1) := by decide +kernel
theorem d_M_init_39 : decode c_M_init 39 = .ok (.bipush 36, 2) := by decide +kernel
theorem d_M_init_41 : decode c_M_init 41 = .ok (.newarray .int, 2) := by decide +kernel
theorem d_M_init_43 : decode c_M_init 43 = .ok (.putfield 27, 3) := by decide +kernel
theorem d_M_init_46 : decode c_M_init 46 = .ok (.aload_n 0, 1) := by decide +kernel
theorem d_M_init_47 : decode c_M_init 47 = .ok (.bipush 36, 2) := by decide +kernel
theorem d_M_init_49 : decode c_M_init 49 = .ok (.newarray .int, 2) := by decide +kernel
theorem d_M_init_51 : decode c_M_init 51 = .ok (.putfield 30, 3) := by decide +kernel
theorem d_M_init_54 : decode c_M_init 54 = .ok (.aload_n 0, 1) := by decide +kernel
theorem d_M_init_55 : decode c_M_init 55 = .ok (.bipush 36, 2) := by decide +kernel
theorem d_M_init_57 : decode c_M_init 57 = .ok (.newarray .int, 2) := by decide +kernel
theorem d_M_init_59 : decode c_M_init 59 = .ok (.putfield 33, 3) := by decide +kernel
theorem d_M_init_62 : decode c_M_init 62 = .ok (.aload_n 0, 1) := by decide +kernel
theorem d_M_init_63 : decode c_M_init 63 = .ok (.sipush 144, 3) := by decide +kernel
theorem d_M_init_66 : decode c_M_init 66 = .ok (.newarray .int, 2) := by decide +kernel
theorem d_M_init_68 : decode c_M_init 68 = .ok (.putfield 36, 3) := by decide +kernel
theorem d_M_init_71 : decode c_M_init 71 = .ok (.aload_n 0, 1) := by decide +kernel
theorem d_M_init_72 : decode c_M_init 72 = .ok (.sipush 144, 3) := by decide +kernel
theorem d_M_init_75 : decode c_M_init 75 = .ok (.newarray .boolean, 2) := by decide +kernel
theorem d_M_init_77 : decode c_M_init 77 = .ok (.putfield 39, 3) := by decide +kernel
theorem d_M_init_80 : decode c_M_init 80 = .ok (.aload_n 0, 1) := by decide +kernel
theorem d_M_init_81 : decode c_M_init 81 = .ok (.bipush 36, 2) := by decide +kernel
theorem d_M_init_83 : decode c_M_init 83 = .ok (.newarray .int, 2) := by decide +kernel
theorem d_M_init_85 : decode c_M_init 85 = .ok (.putfield 42, 3) := by decide +kernel
theorem d_M_init_88 : decode c_M_init 88 = .ok (.aload_n 0, 1) := by decide +kernel
theorem d_M_init_89 : decode c_M_init 89 = .ok (.bipush 36, 2) := by decide +kernel
theorem d_M_init_91 : decode c_M_init 91 = .ok (.newarray .int, 2) := by decide +kernel
theorem d_M_init_93 : decode c_M_init 93 = .ok (.putfield 45, 3) := by decide +kernel
theorem d_M_init_96 : decode c_M_init 96 = .ok (.aload_n 0, 1) := by decide +kernel
theorem d_M_init_97 : decode c_M_init 97 = .ok (.bipush 36, 2) := by decide +kernel
theorem d_M_init_99 : decode c_M_init 99 = .ok (.newarray .int, 2) := by decide +kernel
theorem d_M_init_101 : decode c_M_init 101 = .ok (.putfield 48, 3) := by decide +kernel
theorem d_M_init_104 : decode c_M_init 104 = .ok (.aload_n 0, 1) := by decide +kernel
theorem d_M_init_105 : decode c_M_init 105 = .ok (.bipush 36, 2) := by decide +kernel
theorem d_M_init_107 : decode c_M_init 107 = .ok (.newarray .int, 2) := by decide +kernel
theorem d_M_init_109 : decode c_M_init 109 = .ok (.putfield 51, 3) := by decide +kernel
theorem d_M_init_112 : decode c_M_init 112 = .ok (.aload_n 0, 1) := by decide +kernel
theorem d_M_init_113 : decode c_M_init 113 = .ok (.bipush 100, 2) := by decide +kernel
theorem d_M_init_115 : decode c_M_init 115 = .ok (.newarray .int, 2) := by decide +kernel
theorem d_M_init_117 : decode c_M_init 117 = .ok (.putfield 54, 3) := by decide +kernel
theorem d_M_init_120 : decode c_M_init 120 = .ok (.aload_n 0, 1) := by decide +kernel
theorem d_M_init_121 : decode c_M_init 121 = .ok (.bipush 100, 2) := by decide +kernel
theorem d_M_init_123 : decode c_M_init 123 = .ok (.newarray .int, 2) := by decide +kernel
theorem d_M_init_125 : decode c_M_init 125 = .ok (.putfield 57, 3) := by decide +kernel
theorem d_M_init_128 : decode c_M_init 128 = .ok (.aload_n 0, 1) := by decide +kernel
theorem d_M_init_129 : decode c_M_init 129 = .ok (.bipush 100, 2) := by decide +kernel
theorem d_M_init_131 : decode c_M_init 131 = .ok (.newarray .int, 2) := by decide +kernel
theorem d_M_init_133 : decode c_M_init 133 = .ok (.putfield 60, 3) := by decide +kernel
theorem d_M_init_136 : decode c_M_init 136 = .ok (.aload_n 0, 1) := by decide +kernel
theorem d_M_init_137 : decode c_M_init 137 = .ok (.bipush 100, 2) := by decide +kernel
theorem d_M_init_139 : decode c_M_init 139 = .ok (.newarray .int, 2) := by decide +kernel
theorem d_M_init_141 : decode c_M_init 141 = .ok (.putfield 63, 3) := by decide +kernel
theorem d_M_init_144 : decode c_M_init 144 = .ok (.aload_n 0, 1) := by decide +kernel
theorem d_M_init_145 : decode c_M_init 145 = .ok (.sipush 400, 3) := by decide +kernel
theorem d_M_init_148 : decode c_M_init 148 = .ok (.newarray .int, 2) := by decide +kernel
theorem d_M_init_150 : decode c_M_init 150 = .ok (.putfield 66, 3) := by decide +kernel
theorem d_M_init_153 : decode c_M_init 153 = .ok (.aload_n 0, 1) := by decide +kernel
theorem d_M_init_154 : decode c_M_init 154 = .ok (.sipush 400, 3) := by decide +kernel
theorem d_M_init_157 : decode c_M_init 157 = .ok (.newarray .boolean, 2) := by decide +kernel
theorem d_M_init_159 : decode c_M_init 159 = .ok (.putfield 69, 3) := by decide +kernel
theorem d_M_init_162 : decode c_M_init 162 = .ok (.aload_n 0, 1) := by decide +kernel
theorem d_M_init_163 : decode c_M_init 163 = .ok (.sipush 400, 3) := by decide +kernel
theorem d_M_init_166 : decode c_M_init 166 = .ok (.newarray .long, 2) := by decide +kernel
theorem d_M_init_168 : decode c_M_init 168 = .ok (.putfield 72, 3) := by decide +kernel
theorem d_M_init_171 : decode c_M_init 171 = .ok (.aload_n 0, 1) := by decide +kernel
theorem d_M_init_172 : decode c_M_init 172 = .ok (.bipush 36, 2) := by decide +kernel
theorem d_M_init_174 : decode c_M_init 174 = .ok (.newarray .int, 2) := by decide +kernel
theorem d_M_init_176 : decode c_M_init 176 = .ok (.putfield 76, 3) := by decide +kernel
theorem d_M_init_179 : decode c_M_init 179 = .ok (.aload_n 0, 1) := by decide +kernel
theorem d_M_init_180 : decode c_M_init 180 = .ok (.bipush 36, 2) := by decide +kernel
theorem d_M_init_182 : decode c_M_init 182 = .ok (.newarray .int, 2) := by decide +kernel
theorem d_M_init_184 : decode c_M_init 184 = .ok (.putfield 79, 3) := by decide +kernel
theorem d_M_init_187 : decode c_M_init 187 = .ok (.aload_n 0, 1) := by decide +kernel
theorem d_M_init_188 : decode c_M_init 188 = .ok (.sipush 144, 3) := by decide +kernel
theorem d_M_init_191 : decode c_M_init 191 = .ok (.newarray .long, 2) := by decide +kernel
theorem d_M_init_193 : decode c_M_init 193 = .ok (.putfield 82, 3) := by decide +kernel
theorem d_M_init_196 : decode c_M_init 196 = .ok (.aload_n 0, 1) := by decide +kernel
theorem d_M_init_197 : decode c_M_init 197 = .ok (.getfield 7, 3) := by decide +kernel
theorem d_M_init_200 : decode c_M_init 200 = .ok (.iconst 0, 1) := by decide +kernel
theorem d_M_init_201 : decode c_M_init 201 = .ok (.iconst (-1), 1) := by decide +kernel
theorem d_M_init_202 : decode c_M_init 202 = .ok (.iastore, 1) := by decide +kernel
theorem d_M_init_203 : decode c_M_init 203 = .ok (.return_, 1) := by decide +kernel
theorem d_M_noPair_0 : decode c_M_noPair 0 = .ok (.iload_n 1, 1) := by decide +kernel
theorem d_M_noPair_1 : decode c_M_noPair 1 = .ok (.ifCond .lt 21, 3) := by decide +kernel
theorem d_M_noPair_4 : decode c_M_noPair 4 = .ok (.iload_n 1, 1) := by decide +kernel
theorem d_M_noPair_5 : decode c_M_noPair 5 = .ok (.aload_n 0, 1) := by decide +kernel
theorem d_M_noPair_6 : decode c_M_noPair 6 = .ok (.getfield 13, 3) := by decide +kernel
theorem d_M_noPair_9 : decode c_M_noPair 9 = .ok (.if_icmp .ge 13, 3) := by decide +kernel
theorem d_M_noPair_12 : decode c_M_noPair 12 = .ok (.iload_n 2, 1) := by decide +kernel
theorem d_M_noPair_13 : decode c_M_noPair 13 = .ok (.ifCond .lt 9, 3) := by decide +kernel
theorem d_M_noPair_16 : decode c_M_noPair 16 = .ok (.iload_n 2, 1) := by decide +kernel
theorem d_M_noPair_17 : decode c_M_noPair 17 = .ok (.bipush 11, 2) := by decide +kernel
theorem d_M_noPair_19 : decode c_M_noPair 19 = .ok (.if_icmp .le 7, 3) := by decide +kernel
theorem d_M_noPair_22 : decode c_M_noPair 22 = .ok (.iconst 1, 1) := by decide +kernel
theorem d_M_noPair_23 : decode c_M_noPair 23 = .ok (.goto 4, 3) := by decide +kernel
theorem d_M_noPair_26 : decode c_M_noPair 26 = .ok (.iconst 0, 1) := by decide +kernel
theorem d_M_noPair_27 : decode c_M_noPair 27 = .ok (.ireturn, 1) := by decide +kernel
theorem d_M_child_0 : decode c_M_child 0 = .ok (.iload_n 1, 1) := by decide +kernel
theorem d_M_child_1 : decode c_M_child 1 = .ok (.ifCond .lt 19, 3) := by decide +kernel
theorem d_M_child_4 : decode c_M_child 4 = .ok (.iload_n 1, 1) := by decide +kernel
theorem d_M_child_5 : decode c_M_child 5 = .ok (.aload_n 0, 1) := by decide +kernel
theorem d_M_child_6 : decode c_M_child 6 = .ok (.getfield 13, 3) := by decide +kernel
theorem d_M_child_9 : decode c_M_child 9 = .ok (.if_icmp .ge 11, 3) := by decide +kernel
theorem d_M_child_12 : decode c_M_child 12 = .ok (.aload_n 0, 1) := by decide +kernel
theorem d_M_child_13 : decode c_M_child 13 = .ok (.getfield 13, 3) := by decide +kernel
theorem d_M_child_16 : decode c_M_child 16 = .ok (.iconst 3, 1) := by decide +kernel
theorem d_M_child_17 : decode c_M_child 17 = .ok (.if_icmp .ne 5, 3) := by decide +kernel
theorem d_M_child_20 : decode c_M_child 20 = .ok (.iconst (-1), 1) := by decide +kernel
theorem d_M_child_21 : decode c_M_child 21 = .ok (.ireturn, 1) := by decide +kernel
theorem d_M_child_22 : decode c_M_child 22 = .ok (.aload_n 0, 1) := by decide +kernel
theorem d_M_child_23 : decode c_M_child 23 = .ok (.getfield 7, 3) := by decide +kernel
theorem d_M_child_26 : decode c_M_child 26 = .ok (.aload_n 0, 1) := by decide +kernel
theorem d_M_child_27 : decode c_M_child 27 = .ok (.getfield 13, 3) := by decide +kernel
theorem d_M_child_30 : decode c_M_child 30 = .ok (.iload_n 1, 1) := by decide +kernel
theorem d_M_child_31 : decode c_M_child 31 = .ok (.iastore, 1) := by decide +kernel
theorem d_M_child_32 : decode c_M_child 32 = .ok (.aload_n 0, 1) := by decide +kernel
theorem d_M_child_33 : decode c_M_child 33 = .ok (.dup, 1) := by decide +kernel
theorem d_M_child_34 : decode c_M_child 34 = .ok (.getfield 13, 3) := by decide +kernel
theorem d_M_child_37 : decode c_M_child 37 = .ok (.iconst 1, 1) := by decide +kernel
theorem d_M_child_38 : decode c_M_child 38 = .ok (.iadd, 1) := by decide +kernel
theorem d_M_child_39 : decode c_M_child 39 = .ok (.putfield 13, 3) := by decide +kernel
theorem d_M_child_42 : decode c_M_child 42 = .ok (.aload_n 0, 1) := by decide +kernel
theorem d_M_child_43 : decode c_M_child 43 = .ok (.getfield 13, 3) := by decide +kernel
theorem d_M_child_46 : decode c_M_child 46 = .ok (.iconst 1, 1) := by decide +kernel
theorem d_M_child_47 : decode c_M_child 47 = .ok (.isub, 1) := by decide +kernel
theorem d_M_child_48 : decode c_M_child 48 = .ok (.ireturn, 1) := by decide +kernel
theorem d_M_need_0 : decode c_M_need 0 = .ok (.iload_n 1, 1) := by decide +kernel
theorem d_M_need_1 : decode c_M_need 1 = .ok (.ifCond .lt 17, 3) := by decide +kernel
theorem d_M_need_4 : decode c_M_need 4 = .ok (.iload_n 1, 1) := by decide +kernel
theorem d_M_need_5 : decode c_M_need 5 = .ok (.bipush 11, 2) := by decide +kernel
theorem d_M_need_7 : decode c_M_need 7 = .ok (.if_icmp .gt 11, 3) := by decide +kernel
theorem d_M_need_10 : decode c_M_need 10 = .ok (.aload_n 0, 1) := by decide +kernel
theorem d_M_need_11 : decode c_M_need 11 = .ok (.getfield 85, 3) := by decide +kernel
theorem d_M_need_14 : decode c_M_need 14 = .ok (.iconst 4, 1) := by decide +kernel
theorem d_M_need_15 : decode c_M_need 15 = .ok (.if_icmp .ne 5, 3) := by decide +kernel
theorem d_M_need_18 : decode c_M_need 18 = .ok (.iconst (-1), 1) := by decide +kernel
theorem d_M_need_19 : decode c_M_need 19 = .ok (.ireturn, 1) := by decide +kernel
theorem d_M_need_20 : decode c_M_need 20 = .ok (.aload_n 0, 1) := by decide +kernel
theorem d_M_need_21 : decode c_M_need 21 = .ok (.getfield 17, 3) := by decide +kernel
theorem d_M_need_24 : decode c_M_need 24 = .ok (.aload_n 0, 1) := by decide +kernel
theorem d_M_need_25 : decode c_M_need 25 = .ok (.getfield 85, 3) := by decide +kernel
theorem d_M_need_28 : decode c_M_need 28 = .ok (.iload_n 1, 1) := by decide +kernel
theorem d_M_need_29 : decode c_M_need 29 = .ok (.iastore, 1) := by decide +kernel
theorem d_M_need_30 : decode c_M_need 30 = .ok (.aload_n 0, 1) := by decide +kernel
theorem d_M_need_31 : decode c_M_need 31 = .ok (.getfield 20, 3) := by decide +kernel
theorem d_M_need_34 : decode c_M_need 34 = .ok (.aload_n 0, 1) := by decide +kernel
theorem d_M_need_35 : decode c_M_need 35 = .ok (.getfield 85, 3) := by decide +kernel
theorem d_M_need_38 : decode c_M_need 38 = .ok (.iload_n 2, 1) := by decide +kernel
theorem d_M_need_39 : decode c_M_need 39 = .ok (.bastore, 1) := by decide +kernel
theorem d_M_need_40 : decode c_M_need 40 = .ok (.aload_n 0, 1) := by decide +kernel
theorem d_M_need_41 : decode c_M_need 41 = .ok (.dup, 1) := by decide +kernel
theorem d_M_need_42 : decode c_M_need 42 = .ok (.getfield 85, 3) := by decide +kernel
theorem d_M_need_45 : decode c_M_need 45 = .ok (.iconst 1, 1) := by decide +kernel
theorem d_M_need_46 : decode c_M_need 46 = .ok (.iadd, 1) := by decide +kernel
theorem d_M_need_47 : decode c_M_need 47 = .ok (.putfield 85, 3) := by decide +kernel
theorem d_M_need_50 : decode c_M_need 50 = .ok (.aload_n 0, 1) := by decide +kernel
theorem d_M_need_51 : decode c_M_need 51 = .ok (.getfield 85, 3) := by decide +kernel
theorem d_M_need_54 : decode c_M_need 54 = .ok (.ireturn, 1) := by decide +kernel
theorem d_M_drop_0 : decode c_M_drop 0 = .ok (.aload_n 0, 1) := by decide +kernel
theorem d_M_drop_1 : decode c_M_drop 1 = .ok (.getfield 85, 3) := by decide +kernel
theorem d_M_drop_4 : decode c_M_drop 4 = .ok (.istore_n 1, 1) := by decide +kernel
theorem d_M_drop_5 : decode c_M_drop 5 = .ok (.aload_n 0, 1) := by decide +kernel
theorem d_M_drop_6 : decode c_M_drop 6 = .ok (.iconst 0, 1) := by decide +kernel
theorem d_M_drop_7 : decode c_M_drop 7 = .ok (.putfield 85, 3) := by decide +kernel
theorem d_M_drop_10 : decode c_M_drop 10 = .ok (.iload_n 1, 1) := by decide +kernel
theorem d_M_drop_11 : decode c_M_drop 11 = .ok (.ireturn, 1) := by decide +kernel
theorem d_M_bind_0 : decode c_M_bind 0 = .ok (.aload_n 0, 1) := by decide +kernel
theorem d_M_bind_1 : decode c_M_bind 1 = .ok (.iload_n 1, 1) := by decide +kernel
theorem d_M_bind_2 : decode c_M_bind 2 = .ok (.iload_n 2, 1) := by decide +kernel
theorem d_M_bind_3 : decode c_M_bind 3 = .ok (.invokevirtual 88, 3) := by decide +kernel
theorem d_M_bind_6 : decode c_M_bind 6 = .ok (.ifCond .ne 17, 3) := by decide +kernel
theorem d_M_bind_9 : decode c_M_bind 9 = .ok (.aload_n 0, 1) := by decide +kernel
theorem d_M_bind_10 : decode c_M_bind 10 = .ok (.getfield 24, 3) := by decide +kernel
theorem d_M_bind_13 : decode c_M_bind 13 = .ok (.bipush 12, 2) := by decide +kernel
theorem d_M_bind_15 : decode c_M_bind 15 = .ok (.iload_n 1, 1) := by decide +kernel
theorem d_M_bind_16 : decode c_M_bind 16 = .ok (.imul, 1) := by decide +kernel
theorem d_M_bind_17 : decode c_M_bind 17 = .ok (.iload_n 2, 1) := by decide +kernel
theorem d_M_bind_18 : decode c_M_bind 18 = .ok (.iadd, 1) := by decide +kernel
theorem d_M_bind_19 : decode c_M_bind 19 = .ok (.iaload, 1) := by decide +kernel
theorem d_M_bind_20 : decode c_M_bind 20 = .ok (.ifCond .eq 5, 3) := by decide +kernel
theorem d_M_bind_23 : decode c_M_bind 23 = .ok (.iconst (-1), 1) := by decide +kernel
theorem d_M_bind_24 : decode c_M_bind 24 = .ok (.ireturn, 1) := by decide +kernel
theorem d_M_bind_25 : decode c_M_bind 25 = .ok (.aload_n 0, 1) := by decide +kernel
theorem d_M_bind_26 : decode c_M_bind 26 = .ok (.getfield 24, 3) := by decide +kernel
theorem d_M_bind_29 : decode c_M_bind 29 = .ok (.bipush 12, 2) := by decide +kernel
theorem d_M_bind_31 : decode c_M_bind 31 = .ok (.iload_n 1, 1) := by decide +kernel
theorem d_M_bind_32 : decode c_M_bind 32 = .ok (.imul, 1) := by decide +kernel
theorem d_M_bind_33 : decode c_M_bind 33 = .ok (.iload_n 2, 1) := by decide +kernel
theorem d_M_bind_34 : decode c_M_bind 34 = .ok (.iadd, 1) := by decide +kernel
theorem d_M_bind_35 : decode c_M_bind 35 = .ok (.iload_n 3, 1) := by decide +kernel
theorem d_M_bind_36 : decode c_M_bind 36 = .ok (.iastore, 1) := by decide +kernel
theorem d_M_bind_37 : decode c_M_bind 37 = .ok (.aload_n 0, 1) := by decide +kernel
theorem d_M_bind_38 : decode c_M_bind 38 = .ok (.getfield 27, 3) := by decide +kernel
theorem d_M_bind_41 : decode c_M_bind 41 = .ok (.bipush 12, 2) := by decide +kernel
theorem d_M_bind_43 : decode c_M_bind 43 = .ok (.iload_n 1, 1) := by decide +kernel
theorem d_M_bind_44 : decode c_M_bind 44 = .ok (.imul, 1) := by decide +kernel
theorem d_M_bind_45 : decode c_M_bind 45 = .ok (.iload_n 2, 1) := by decide +kernel
theorem d_M_bind_46 : decode c_M_bind 46 = .ok (.iadd, 1) := by decide +kernel
theorem d_M_bind_47 : decode c_M_bind 47 = .ok (.iload 4, 2) := by decide +kernel
theorem d_M_bind_49 : decode c_M_bind 49 = .ok (.iastore, 1) := by decide +kernel
theorem d_M_bind_50 : decode c_M_bind 50 = .ok (.iconst 1, 1) := by decide +kernel
theorem d_M_bind_51 : decode c_M_bind 51 = .ok (.ireturn, 1) := by decide +kernel
theorem d_M_bindConstant_0 : decode c_M_bindConstant 0 = .ok (.aload_n 0, 1) := by decide +kernel
theorem d_M_bindConstant_1 : decode c_M_bindConstant 1 = .ok (.iload_n 1, 1) := by decide +kernel
theorem d_M_bindConstant_2 : decode c_M_bindConstant 2 = .ok (.iload_n 2, 1) := by decide +kernel
theorem d_M_bindConstant_3 : decode c_M_bindConstant 3 = .ok (.iconst 1, 1) := by decide +kernel
theorem d_M_bindConstant_4 : decode c_M_bindConstant 4 = .ok (.iload_n 3, 1) := by decide +kernel
theorem d_M_bindConstant_5 : decode c_M_bindConstant 5 = .ok (.invokevirtual 92, 3) := by decide +kernel
theorem d_M_bindConstant_8 : decode c_M_bindConstant 8 = .ok (.ireturn, 1) := by decide +kernel
theorem d_M_bindLink_0 : decode c_M_bindLink 0 = .ok (.iload_n 3, 1) := by decide +kernel
theorem d_M_bindLink_1 : decode c_M_bindLink 1 = .ok (.ifCond .lt 9, 3) := by decide +kernel
theorem d_M_bindLink_4 : decode c_M_bindLink 4 = .ok (.iload_n 3, 1) := by decide +kernel
theorem d_M_bindLink_5 : decode c_M_bindLink 5 = .ok (.bipush 11, 2) := by decide +kernel
theorem d_M_bindLink_7 : decode c_M_bindLink 7 = .ok (.if_icmp .le 7, 3) := by decide +kernel
theorem d_M_bindLink_10 : decode c_M_bindLink 10 = .ok (.iconst (-1), 1) := by decide +kernel
theorem d_M_bindLink_11 : decode c_M_bindLink 11 = .ok (.goto 11, 3) := by decide +kernel
theorem d_M_bindLink_14 : decode c_M_bindLink 14 = .ok (.aload_n 0, 1) := by decide +kernel
theorem d_M_bindLink_15 : decode c_M_bindLink 15 = .ok (.iload_n 1, 1) := by decide +kernel
theorem d_M_bindLink_16 : decode c_M_bindLink 16 = .ok (.iload_n 2, 1) := by decide +kernel
theorem d_M_bindLink_17 : decode c_M_bindLink 17 = .ok (.iconst 2, 1) := by decide +kernel
theorem d_M_bindLink_18 : decode c_M_bindLink 18 = .ok (.iload_n 3, 1) := by decide +kernel
theorem d_M_bindLink_19 : decode c_M_bindLink 19 = .ok (.invokevirtual 92, 3) := by decide +kernel
theorem d_M_bindLink_22 : decode c_M_bindLink 22 = .ok (.ireturn, 1) := by decide +kernel
theorem d_M_bindClass_0 : decode c_M_bindClass 0 = .ok (.iload_n 3, 1) := by decide +kernel
theorem d_M_bindClass_1 : decode c_M_bindClass 1 = .ok (.ifCond .lt 20, 3) := by decide +kernel
theorem d_M_bindClass_4 : decode c_M_bindClass 4 = .ok (.iload_n 3, 1) := by decide +kernel
theorem d_M_bindClass_5 : decode c_M_bindClass 5 = .ok (.iconst 2, 1) := by decide +kernel
theorem d_M_bindClass_6 : decode c_M_bindClass 6 = .ok (.if_icmp .gt 15, 3) := by decide +kernel
theorem d_M_bindClass_9 : decode c_M_bindClass 9 = .ok (.aload_n 0, 1) := by decide +kernel
theorem d_M_bindClass_10 : decode c_M_bindClass 10 = .ok (.iload_n 1, 1) := by decide +kernel
theorem d_M_bindClass_11 : decode c_M_bindClass 11 = .ok (.iload_n 2, 1) := by decide +kernel
theorem d_M_bindClass_12 : decode c_M_bindClass 12 = .ok (.iconst 3, 1) := by decide +kernel
theorem d_M_bindClass_13 : decode c_M_bindClass 13 = .ok (.iconst 0, 1) := by decide +kernel
theorem d_M_bindClass_14 : decode c_M_bindClass 14 = .ok (.invokevirtual 92, 3) := by decide +kernel
theorem d_M_bindClass_17 : decode c_M_bindClass 17 = .ok (.iconst (-1), 1) := by decide +kernel
theorem d_M_bindClass_18 : decode c_M_bindClass 18 = .ok (.if_icmp .ne 5, 3) := by decide +kernel
theorem d_M_bindClass_21 : decode c_M_bindClass 21 = .ok (.iconst (-1), 1) := by decide +kernel
theorem d_M_bindClass_22 : decode c_M_bindClass 22 = .ok (.ireturn, 1) := by decide +kernel
theorem d_M_bindClass_23 : decode c_M_bindClass 23 = .ok (.bipush 12, 2) := by decide +kernel
theorem d_M_bindClass_25 : decode c_M_bindClass 25 = .ok (.iload_n 1, 1) := by decide +kernel
theorem d_M_bindClass_26 : decode c_M_bindClass 26 = .ok (.imul, 1) := by decide +kernel
theorem d_M_bindClass_27 : decode c_M_bindClass 27 = .ok (.iload_n 2, 1) := by decide +kernel
theorem d_M_bindClass_28 : decode c_M_bindClass 28 = .ok (.iadd, 1) := by decide +kernel
theorem d_M_bindClass_29 : decode c_M_bindClass 29 = .ok (.istore 4, 2) := by decide +kernel
theorem d_M_bindClass_31 : decode c_M_bindClass 31 = .ok (.aload_n 0, 1) := by decide +kernel
theorem d_M_bindClass_32 : decode c_M_bindClass 32 = .ok (.getfield 30, 3) := by decide +kernel
theorem d_M_bindClass_35 : decode c_M_bindClass 35 = .ok (.iload 4, 2) := by decide +kernel
theorem d_M_bindClass_37 : decode c_M_bindClass 37 = .ok (.iload_n 3, 1) := by decide +kernel
theorem d_M_bindClass_38 : decode c_M_bindClass 38 = .ok (.iastore, 1) := by decide +kernel
theorem d_M_bindClass_39 : decode c_M_bindClass 39 = .ok (.aload_n 0, 1) := by decide +kernel
theorem d_M_bindClass_40 : decode c_M_bindClass 40 = .ok (.getfield 33, 3) := by decide +kernel
theorem d_M_bindClass_43 : decode c_M_bindClass 43 = .ok (.iload 4, 2) := by decide +kernel
theorem d_M_bindClass_45 : decode c_M_bindClass 45 = .ok (.aload_n 0, 1) := by decide +kernel
theorem d_M_bindClass_46 : decode c_M_bindClass 46 = .ok (.getfield 85, 3) := by decide +kernel
theorem d_M_bindClass_49 : decode c_M_bindClass 49 = .ok (.iastore, 1) := by decide +kernel
theorem d_M_bindClass_50 : decode c_M_bindClass 50 = .ok (.iconst 0, 1) := by decide +kernel
theorem d_M_bindClass_51 : decode c_M_bindClass 51 = .ok (.istore 5, 2) := by decide +kernel
theorem d_M_bindClass_53 : decode c_M_bindClass 53 = .ok (.iload 5, 2) := by decide +kernel
theorem d_M_bindClass_55 : decode c_M_bindClass 55 = .ok (.aload_n 0, 1) := by decide +kernel
theorem d_M_bindClass_56 : decode c_M_bindClass 56 = .ok (.getfield 85, 3) := by decide +kernel
theorem d_M_bindClass_59 : decode c_M_bindClass 59 = .ok (.if_icmp .ge 47, 3) := by decide +kernel
theorem d_M_bindClass_62 : decode c_M_bindClass 62 = .ok (.aload_n 0, 1) := by decide +kernel
theorem d_M_bindClass_63 : decode c_M_bindClass 63 = .ok (.getfield 36, 3) := by decide +kernel
theorem d_M_bindClass_66 : decode c_M_bindClass 66 = .ok (.iconst 4, 1) := by decide +kernel
theorem d_M_bindClass_67 : decode c_M_bindClass 67 = .ok (.iload 4, 2) := by decide +kernel
theorem d_M_bindClass_69 : decode c_M_bindClass 69 = .ok (.imul, 1) := by decide +kernel
theorem d_M_bindClass_70 : decode c_M_bindClass 70 = .ok (.iload 5, 2) := by decide +kernel
theorem d_M_bindClass_72 : decode c_M_bindClass 72 = .ok (.iadd, 1) := by decide +kernel
theorem d_M_bindClass_73 : decode c_M_bindClass 73 = .ok (.aload_n 0, 1) := by decide +kernel
theorem d_M_bindClass_74 : decode c_M_bindClass 74 = .ok (.getfield 17, 3) := by decide +kernel
theorem d_M_bindClass_77 : decode c_M_bindClass 77 = .ok (.iload 5, 2) := by decide +kernel
theorem d_M_bindClass_79 : decode c_M_bindClass 79 = .ok (.iaload, 1) := by decide +kernel
theorem d_M_bindClass_80 : decode c_M_bindClass 80 = .ok (.iastore, 1) := by decide +kernel
theorem d_M_bindClass_81 : decode c_M_bindClass 81 = .ok (.aload_n 0, 1) := by decide +kernel
theorem d_M_bindClass_82 : decode c_M_bindClass 82 = .ok (.getfield 39, 3) := by decide +kernel
theorem d_M_bindClass_85 : decode c_M_bindClass 85 = .ok (.iconst 4, 1) := by decide +kernel
theorem d_M_bindClass_86 : decode c_M_bindClass 86 = .ok (.iload 4, 2) := by decide +kernel
theorem d_M_bindClass_88 : decode c_M_bindClass 88 = .ok (.imul, 1) := by decide +kernel
theorem d_M_bindClass_89 : decode c_M_bindClass 89 = .ok (.iload 5, 2) := by decide +kernel
theorem d_M_bindClass_91 : decode c_M_bindClass 91 = .ok (.iadd, 1) := by decide +kernel
theorem d_M_bindClass_92 : decode c_M_bindClass 92 = .ok (.aload_n 0, 1) := by decide +kernel
theorem d_M_bindClass_93 : decode c_M_bindClass 93 = .ok (.getfield 20, 3) := by decide +kernel
theorem d_M_bindClass_96 : decode c_M_bindClass 96 = .ok (.iload 5, 2) := by decide +kernel
theorem d_M_bindClass_98 : decode c_M_bindClass 98 = .ok (.baload, 1) := by decide +kernel
theorem d_M_bindClass_99 : decode c_M_bindClass 99 = .ok (.bastore, 1) := by decide +kernel
theorem d_M_bindClass_100 : decode c_M_bindClass 100 = .ok (.iinc 5 1, 3) := by decide +kernel
theorem d_M_bindClass_103 : decode c_M_bindClass 103 = .ok (.goto (-50), 3) := by decide +kernel
theorem d_M_bindClass_106 : decode c_M_bindClass 106 = .ok (.aload_n 0, 1) := by decide +kernel
theorem d_M_bindClass_107 : decode c_M_bindClass 107 = .ok (.invokevirtual 96, 3) := by decide +kernel
theorem d_M_bindClass_110 : decode c_M_bindClass 110 = .ok (.ireturn, 1) := by decide +kernel
theorem d_M_unbind_0 : decode c_M_unbind 0 = .ok (.aload_n 0, 1) := by decide +kernel
theorem d_M_unbind_1 : decode c_M_unbind 1 = .ok (.iload_n 1, 1) := by decide +kernel
theorem d_M_unbind_2 : decode c_M_unbind 2 = .ok (.iload_n 2, 1) := by decide +kernel
theorem d_M_unbind_3 : decode c_M_unbind 3 = .ok (.invokevirtual 88, 3) := by decide +kernel
theorem d_M_unbind_6 : decode c_M_unbind 6 = .ok (.ifCond .ne 17, 3) := by decide +kernel
theorem d_M_unbind_9 : decode c_M_unbind 9 = .ok (.aload_n 0, 1) := by decide +kernel
theorem d_M_unbind_10 : decode c_M_unbind 10 = .ok (.getfield 24, 3) := by decide +kernel
theorem d_M_unbind_13 : decode c_M_unbind 13 = .ok (.bipush 12, 2) := by decide +kernel
theorem d_M_unbind_15 : decode c_M_unbind 15 = .ok (.iload_n 1, 1) := by decide +kernel
theorem d_M_unbind_16 : decode c_M_unbind 16 = .ok (.imul, 1) := by decide +kernel
theorem d_M_unbind_17 : decode c_M_unbind 17 = .ok (.iload_n 2, 1) := by decide +kernel
theorem d_M_unbind_18 : decode c_M_unbind 18 = .ok (.iadd, 1) := by decide +kernel
theorem d_M_unbind_19 : decode c_M_unbind 19 = .ok (.iaload, 1) := by decide +kernel
theorem d_M_unbind_20 : decode c_M_unbind 20 = .ok (.ifCond .ne 5, 3) := by decide +kernel
theorem d_M_unbind_23 : decode c_M_unbind 23 = .ok (.iconst (-1), 1) := by decide +kernel
theorem d_M_unbind_24 : decode c_M_unbind 24 = .ok (.ireturn, 1) := by decide +kernel
theorem d_M_unbind_25 : decode c_M_unbind 25 = .ok (.bipush 12, 2) := by decide +kernel
theorem d_M_unbind_27 : decode c_M_unbind 27 = .ok (.iload_n 1, 1) := by decide +kernel
theorem d_M_unbind_28 : decode c_M_unbind 28 = .ok (.imul, 1) := by decide +kernel
theorem d_M_unbind_29 : decode c_M_unbind 29 = .ok (.iload_n 2, 1) := by decide +kernel
theorem d_M_unbind_30 : decode c_M_unbind 30 = .ok (.iadd, 1) := by decide +kernel
theorem d_M_unbind_31 : decode c_M_unbind 31 = .ok (.istore_n 3, 1) := by decide +kernel
theorem d_M_unbind_32 : decode c_M_unbind 32 = .ok (.aload_n 0, 1) := by decide +kernel
theorem d_M_unbind_33 : decode c_M_unbind 33 = .ok (.getfield 24, 3) := by decide +kernel
theorem d_M_unbind_36 : decode c_M_unbind 36 = .ok (.iload_n 3, 1) := by decide +kernel
theorem d_M_unbind_37 : decode c_M_unbind 37 = .ok (.iconst 0, 1) := by decide +kernel
theorem d_M_unbind_38 : decode c_M_unbind 38 = .ok (.iastore, 1) := by decide +kernel
theorem d_M_unbind_39 : decode c_M_unbind 39 = .ok (.aload_n 0, 1) := by decide +kernel
theorem d_M_unbind_40 : decode c_M_unbind 40 = .ok (.getfield 42, 3) := by decide +kernel
theorem d_M_unbind_43 : decode c_M_unbind 43 = .ok (.iload_n 3, 1) := by decide +kernel
theorem d_M_unbind_44 : decode c_M_unbind 44 = .ok (.iconst 0, 1) := by decide +kernel
theorem d_M_unbind_45 : decode c_M_unbind 45 = .ok (.iastore, 1) := by decide +kernel
theorem d_M_unbind_46 : decode c_M_unbind 46 = .ok (.aload_n 0, 1) := by decide +kernel
theorem d_M_unbind_47 : decode c_M_unbind 47 = .ok (.getfield 45, 3) := by decide +kernel
theorem d_M_unbind_50 : decode c_M_unbind 50 = .ok (.iload_n 3, 1) := by decide +kernel
theorem d_M_unbind_51 : decode c_M_unbind 51 = .ok (.iconst 0, 1) := by decide +kernel
theorem d_M_unbind_52 : decode c_M_unbind 52 = .ok (.iastore, 1) := by decide +kernel
theorem d_M_unbind_53 : decode c_M_unbind 53 = .ok (.iconst 1, 1) := by decide +kernel
theorem d_M_unbind_54 : decode c_M_unbind 54 = .ok (.ireturn, 1) := by decide +kernel
theorem d_M_open_0 : decode c_M_open 0 = .ok (.aload_n 0, 1) := by decide +kernel
theorem d_M_open_1 : decode c_M_open 1 = .ok (.getfield 100, 3) := by decide +kernel
theorem d_M_open_4 : decode c_M_open 4 = .ok (.ifCond .eq 5, 3) := by decide +kernel
theorem d_M_open_7 : decode c_M_open 7 = .ok (.iconst (-1), 1) := by decide +kernel
theorem d_M_open_8 : decode c_M_open 8 = .ok (.ireturn, 1) := by decide +kernel
theorem d_M_open_9 : decode c_M_open 9 = .ok (.aload_n 0, 1) := by decide +kernel
theorem d_M_open_10 : decode c_M_open 10 = .ok (.iconst 1, 1) := by decide +kernel
theorem d_M_open_11 : decode c_M_open 11 = .ok (.putfield 100, 3) := by decide +kernel
theorem d_M_open_14 : decode c_M_open 14 = .ok (.iconst 1, 1) := by decide +kernel
theorem d_M_open_15 : decode c_M_open 15 = .ok (.ireturn, 1) := by decide +kernel
theorem d_M_filled_0 : decode c_M_filled 0 = .ok (.iconst 0, 1) := by decide +kernel
theorem d_M_filled_1 : decode c_M_filled 1 = .ok (.istore_n 1, 1) := by decide +kernel
theorem d_M_filled_2 : decode c_M_filled 2 = .ok (.iconst 0, 1) := by decide +kernel
theorem d_M_filled_3 : decode c_M_filled 3 = .ok (.istore_n 2, 1) := by decide +kernel
theorem d_M_filled_4 : decode c_M_filled 4 = .ok (.iload_n 2, 1) := by decide +kernel
theorem d_M_filled_5 : decode c_M_filled 5 = .ok (.bipush 36, 2) := by decide +kernel
theorem d_M_filled_7 : decode c_M_filled 7 = .ok (.if_icmp .ge 18, 3) := by decide +kernel
theorem d_M_filled_10 : decode c_M_filled 10 = .ok (.aload_n 0, 1) := by decide +kernel
theorem d_M_filled_11 : decode c_M_filled 11 = .ok (.iload_n 2, 1) := by decide +kernel
theorem d_M_filled_12 : decode c_M_filled 12 = .ok (.iaload, 1) := by decide +kernel
theorem d_M_filled_13 : decode c_M_filled 13 = .ok (.ifCond .eq 6, 3) := by decide +kernel
theorem d_M_filled_16 : decode c_M_filled 16 = .ok (.iinc 1 1, 3) := by decide +kernel
theorem d_M_filled_19 : decode c_M_filled 19 = .ok (.iinc 2 1, 3) := by decide +kernel
theorem d_M_filled_22 : decode c_M_filled 22 = .ok (.goto (-18), 3) := by decide +kernel
theorem d_M_filled_25 : decode c_M_filled 25 = .ok (.iload_n 1, 1) := by decide +kernel
theorem d_M_filled_26 : decode c_M_filled 26 = .ok (.ireturn, 1) := by decide +kernel
theorem d_M_close_0 : decode c_M_close 0 = .ok (.aload_n 0, 1) := by decide +kernel
theorem d_M_close_1 : decode c_M_close 1 = .ok (.getfield 100, 3) := by decide +kernel
theorem d_M_close_4 : decode c_M_close 4 = .ok (.ifCond .ne 5, 3) := by decide +kernel
theorem d_M_close_7 : decode c_M_close 7 = .ok (.iconst (-1), 1) := by decide +kernel
theorem d_M_close_8 : decode c_M_close 8 = .ok (.ireturn, 1) := by decide +kernel
theorem d_M_close_9 : decode c_M_close 9 = .ok (.aload_n 0, 1) := by decide +kernel
theorem d_M_close_10 : decode c_M_close 10 = .ok (.getfield 45, 3) := by decide +kernel
theorem d_M_close_13 : decode c_M_close 13 = .ok (.invokestatic 104, 3) := by decide +kernel
theorem d_M_close_16 : decode c_M_close 16 = .ok (.istore_n 1, 1) := by decide +kernel
theorem d_M_close_17 : decode c_M_close 17 = .ok (.aload_n 0, 1) := by decide +kernel
theorem d_M_close_18 : decode c_M_close 18 = .ok (.iconst 0, 1) := by decide +kernel
theorem d_M_close_19 : decode c_M_close 19 = .ok (.putfield 100, 3) := by decide +kernel
theorem d_M_close_22 : decode c_M_close 22 = .ok (.iconst 0, 1) := by decide +kernel
theorem d_M_close_23 : decode c_M_close 23 = .ok (.istore_n 2, 1) := by decide +kernel
theorem d_M_close_24 : decode c_M_close 24 = .ok (.iload_n 2, 1) := by decide +kernel
theorem d_M_close_25 : decode c_M_close 25 = .ok (.bipush 36, 2) := by decide +kernel
theorem d_M_close_27 : decode c_M_close 27 = .ok (.if_icmp .ge 16, 3) := by decide +kernel
theorem d_M_close_30 : decode c_M_close 30 = .ok (.aload_n 0, 1) := by decide +kernel
theorem d_M_close_31 : decode c_M_close 31 = .ok (.getfield 45, 3) := by decide +kernel
theorem d_M_close_34 : decode c_M_close 34 = .ok (.iload_n 2, 1) := by decide +kernel
theorem d_M_close_35 : decode c_M_close 35 = .ok (.iconst 0, 1) := by decide +kernel
theorem d_M_close_36 : decode c_M_close 36 = .ok (.iastore, 1) := by decide +kernel
theorem d_M_close_37 : decode c_M_close 37 = .ok (.iinc 2 1, 3) := by decide +kernel
theorem d_M_close_40 : decode c_M_close 40 = .ok (.goto (-16), 3) := by decide +kernel
theorem d_M_close_43 : decode c_M_close 43 = .ok (.iload_n 1, 1) := by decide +kernel
theorem d_M_close_44 : decode c_M_close 44 = .ok (.ireturn, 1) := by decide +kernel
theorem d_M_seen_0 : decode c_M_seen 0 = .ok (.iload_n 1, 1) := by decide +kernel
theorem d_M_seen_1 : decode c_M_seen 1 = .ok (.istore_n 3, 1) := by decide +kernel
theorem d_M_seen_2 : decode c_M_seen 2 = .ok (.iload_n 3, 1) := by decide +kernel
theorem d_M_seen_3 : decode c_M_seen 3 = .ok (.ifCond .lt 34, 3) := by decide +kernel
theorem d_M_seen_6 : decode c_M_seen 6 = .ok (.aload_n 0, 1) := by decide +kernel
theorem d_M_seen_7 : decode c_M_seen 7 = .ok (.getfield 24, 3) := by decide +kernel
theorem d_M_seen_10 : decode c_M_seen 10 = .ok (.bipush 12, 2) := by decide +kernel
theorem d_M_seen_12 : decode c_M_seen 12 = .ok (.iload_n 3, 1) := by decide +kernel
theorem d_M_seen_13 : decode c_M_seen 13 = .ok (.imul, 1) := by decide +kernel
theorem d_M_seen_14 : decode c_M_seen 14 = .ok (.iload_n 2, 1) := by decide +kernel
theorem d_M_seen_15 : decode c_M_seen 15 = .ok (.iadd, 1) := by decide +kernel
theorem d_M_seen_16 : decode c_M_seen 16 = .ok (.iaload, 1) := by decide +kernel
theorem d_M_seen_17 : decode c_M_seen 17 = .ok (.ifCond .eq 10, 3) := by decide +kernel
theorem d_M_seen_20 : decode c_M_seen 20 = .ok (.bipush 12, 2) := by decide +kernel
theorem d_M_seen_22 : decode c_M_seen 22 = .ok (.iload_n 3, 1) := by decide +kernel
theorem d_M_seen_23 : decode c_M_seen 23 = .ok (.imul, 1) := by decide +kernel
theorem d_M_seen_24 : decode c_M_seen 24 = .ok (.iload_n 2, 1) := by decide +kernel
theorem d_M_seen_25 : decode c_M_seen 25 = .ok (.iadd, 1) := by decide +kernel
theorem d_M_seen_26 : decode c_M_seen 26 = .ok (.ireturn, 1) := by decide +kernel
theorem d_M_seen_27 : decode c_M_seen 27 = .ok (.aload_n 0, 1) := by decide +kernel
theorem d_M_seen_28 : decode c_M_seen 28 = .ok (.getfield 7, 3) := by decide +kernel
theorem d_M_seen_31 : decode c_M_seen 31 = .ok (.iload_n 3, 1) := by decide +kernel
theorem d_M_seen_32 : decode c_M_seen 32 = .ok (.iaload, 1) := by decide +kernel
theorem d_M_seen_33 : decode c_M_seen 33 = .ok (.istore_n 3, 1) := by decide +kernel
theorem d_M_seen_34 : decode c_M_seen 34 = .ok (.goto (-32), 3) := by decide +kernel
theorem d_M_seen_37 : decode c_M_seen 37 = .ok (.iconst (-1), 1) := by decide +kernel
theorem d_M_seen_38 : decode c_M_seen 38 = .ok (.ireturn, 1) := by decide +kernel
theorem d_M_working_0 : decode c_M_working 0 = .ok (.iconst 0, 1) := by decide +kernel
theorem d_M_working_1 : decode c_M_working 1 = .ok (.istore_n 2, 1) := by decide +kernel
theorem d_M_working_2 : decode c_M_working 2 = .ok (.iload_n 2, 1) := by decide +kernel
theorem d_M_working_3 : decode c_M_working 3 = .ok (.aload_n 0, 1) := by decide +kernel
theorem d_M_working_4 : decode c_M_working 4 = .ok (.getfield 108, 3) := by decide +kernel
theorem d_M_working_7 : decode c_M_working 7 = .ok (.if_icmp .ge 21, 3) := by decide +kernel
theorem d_M_working_10 : decode c_M_working 10 = .ok (.aload_n 0, 1) := by decide +kernel
theorem d_M_working_11 : decode c_M_working 11 = .ok (.getfield 76, 3) := by decide +kernel
theorem d_M_working_14 : decode c_M_working 14 = .ok (.iload_n 2, 1) := by decide +kernel
theorem d_M_working_15 : decode c_M_working 15 = .ok (.iaload, 1) := by decide +kernel
theorem d_M_working_16 : decode c_M_working 16 = .ok (.iload_n 1, 1) := by decide +kernel
theorem d_M_working_17 : decode c_M_working 17 = .ok (.if_icmp .ne 5, 3) := by decide +kernel
theorem d_M_working_20 : decode c_M_working 20 = .ok (.iconst 1, 1) := by decide +kernel
theorem d_M_working_21 : decode c_M_working 21 = .ok (.ireturn, 1) := by decide +kernel
theorem d_M_working_22 : decode c_M_working 22 = .ok (.iinc 2 1, 3) := by decide +kernel
theorem d_M_working_25 : decode c_M_working 25 = .ok (.goto (-23), 3) := by decide +kernel
theorem d_M_working_28 : decode c_M_working 28 = .ok (.iconst 0, 1) := by decide +kernel
theorem d_M_working_29 : decode c_M_working 29 = .ok (.ireturn, 1) := by decide +kernel
theorem d_M_begin_0 : decode c_M_begin 0 = .ok (.aload_n 0, 1) := by decide +kernel
theorem d_M_begin_1 : decode c_M_begin 1 = .ok (.iload_n 1, 1) := by decide +kernel
theorem d_M_begin_2 : decode c_M_begin 2 = .ok (.iload_n 2, 1) := by decide +kernel
theorem d_M_begin_3 : decode c_M_begin 3 = .ok (.invokevirtual 111, 3) := by decide +kernel
theorem d_M_begin_6 : decode c_M_begin 6 = .ok (.istore_n 3, 1) := by decide +kernel
theorem d_M_begin_7 : decode c_M_begin 7 = .ok (.iload_n 3, 1) := by decide +kernel
theorem d_M_begin_8 : decode c_M_begin 8 = .ok (.ifCond .ge 7, 3) := by decide +kernel
theorem d_M_begin_11 : decode c_M_begin 11 = .ok (.ldc2_w 115, 3) := by decide +kernel
theorem d_M_begin_14 : decode c_M_begin 14 = .ok (.lreturn, 1) := by decide +kernel
theorem d_M_begin_15 : decode c_M_begin 15 = .ok (.aload_n 0, 1) := by decide +kernel
theorem d_M_begin_16 : decode c_M_begin 16 = .ok (.getfield 24, 3) := by decide +kernel
theorem d_M_begin_19 : decode c_M_begin 19 = .ok (.iload_n 3, 1) := by decide +kernel
theorem d_M_begin_20 : decode c_M_begin 20 = .ok (.iaload, 1) := by decide +kernel
theorem d_M_begin_21 : decode c_M_begin 21 = .ok (.iconst 1, 1) := by decide +kernel
theorem d_M_begin_22 : decode c_M_begin 22 = .ok (.if_icmp .ne 15, 3) := by decide +kernel
theorem d_M_begin_25 : decode c_M_begin 25 = .ok (.ldc2_w 117, 3) := by decide +kernel
theorem d_M_begin_28 : decode c_M_begin 28 = .ok (.aload_n 0, 1) := by decide +kernel
theorem d_M_begin_29 : decode c_M_begin 29 = .ok (.getfield 27, 3) := by decide +kernel
theorem d_M_begin_32 : decode c_M_begin 32 = .ok (.iload_n 3, 1) := by decide +kernel
theorem d_M_begin_33 : decode c_M_begin 33 = .ok (.iaload, 1) := by decide +kernel
theorem d_M_begin_34 : decode c_M_begin 34 = .ok (.i2l, 1) := by decide +kernel
theorem d_M_begin_35 : decode c_M_begin 35 = .ok (.ladd, 1) := by decide +kernel
theorem d_M_begin_36 : decode c_M_begin 36 = .ok (.lreturn, 1) := by decide +kernel
theorem d_M_begin_37 : decode c_M_begin 37 = .ok (.aload_n 0, 1) := by decide +kernel
theorem d_M_begin_38 : decode c_M_begin 38 = .ok (.getfield 24, 3) := by decide +kernel
theorem d_M_begin_41 : decode c_M_begin 41 = .ok (.iload_n 3, 1) := by decide +kernel
theorem d_M_begin_42 : decode c_M_begin 42 = .ok (.iaload, 1) := by decide +kernel
theorem d_M_begin_43 : decode c_M_begin 43 = .ok (.iconst 3, 1) := by decide +kernel
theorem d_M_begin_44 : decode c_M_begin 44 = .ok (.if_icmp .ne 32, 3) := by decide +kernel
theorem d_M_begin_47 : decode c_M_begin 47 = .ok (.aload_n 0, 1) := by decide +kernel
theorem d_M_begin_48 : decode c_M_begin 48 = .ok (.getfield 30, 3) := by decide +kernel
theorem d_M_begin_51 : decode c_M_begin 51 = .ok (.iload_n 3, 1) := by decide +kernel
theorem d_M_begin_52 : decode c_M_begin 52 = .ok (.iaload, 1) := by decide +kernel
theorem d_M_begin_53 : decode c_M_begin 53 = .ok (.iconst 1, 1) := by decide +kernel
theorem d_M_begin_54 : decode c_M_begin 54 = .ok (.if_icmp .ne 22, 3) := by decide +kernel
theorem d_M_begin_57 : decode c_M_begin 57 = .ok (.aload_n 0, 1) := by decide +kernel
theorem d_M_begin_58 : decode c_M_begin 58 = .ok (.getfield 42, 3) := by decide +kernel
theorem d_M_begin_61 : decode c_M_begin 61 = .ok (.iload_n 3, 1) := by decide +kernel
theorem d_M_begin_62 : decode c_M_begin 62 = .ok (.iaload, 1) := by decide +kernel
theorem d_M_begin_63 : decode c_M_begin 63 = .ok (.ifCond .eq 13, 3) := by decide +kernel
theorem d_M_begin_66 : decode c_M_begin 66 = .ok (.aload_n 0, 1) := by decide +kernel
theorem d_M_begin_67 : decode c_M_begin 67 = .ok (.getfield 42, 3) := by decide +kernel
theorem d_M_begin_70 : decode c_M_begin 70 = .ok (.iload_n 3, 1) := by decide +kernel
theorem d_M_begin_71 : decode c_M_begin 71 = .ok (.iaload, 1) := by decide +kernel
theorem d_M_begin_72 : decode c_M_begin 72 = .ok (.iconst 1, 1) := by decide +kernel
theorem d_M_begin_73 : decode c_M_begin 73 = .ok (.isub, 1) := by decide +kernel
theorem d_M_begin_74 : decode c_M_begin 74 = .ok (.i2l, 1) := by decide +kernel
theorem d_M_begin_75 : decode c_M_begin 75 = .ok (.lreturn, 1) := by decide +kernel
theorem d_M_begin_76 : decode c_M_begin 76 = .ok (.aload_n 0, 1) := by decide +kernel
theorem d_M_begin_77 : decode c_M_begin 77 = .ok (.getfield 24, 3) := by decide +kernel
theorem d_M_begin_80 : decode c_M_begin 80 = .ok (.iload_n 3, 1) := by decide +kernel
theorem d_M_begin_81 : decode c_M_begin 81 = .ok (.iaload, 1) := by decide +kernel
theorem d_M_begin_82 : decode c_M_begin 82 = .ok (.iconst 3, 1) := by decide +kernel
theorem d_M_begin_83 : decode c_M_begin 83 = .ok (.if_icmp .ne 39, 3) := by decide +kernel
theorem d_M_begin_86 : decode c_M_begin 86 = .ok (.aload_n 0, 1) := by decide +kernel
theorem d_M_begin_87 : decode c_M_begin 87 = .ok (.getfield 30, 3) := by decide +kernel
theorem d_M_begin_90 : decode c_M_begin 90 = .ok (.iload_n 3, 1) := by decide +kernel
theorem d_M_begin_91 : decode c_M_begin 91 = .ok (.iaload, 1) := by decide +kernel
theorem d_M_begin_92 : decode c_M_begin 92 = .ok (.iconst 2, 1) := by decide +kernel
theorem d_M_begin_93 : decode c_M_begin 93 = .ok (.if_icmp .ne 29, 3) := by decide +kernel
theorem d_M_begin_96 : decode c_M_begin 96 = .ok (.aload_n 0, 1) := by decide +kernel
theorem d_M_begin_97 : decode c_M_begin 97 = .ok (.getfield 100, 3) := by decide +kernel
theorem d_M_begin_100 : decode c_M_begin 100 = .ok (.ifCond .eq 22, 3) := by decide +kernel
theorem d_M_begin_103 : decode c_M_begin 103 = .ok (.aload_n 0, 1) := by decide +kernel
theorem d_M_begin_104 : decode c_M_begin 104 = .ok (.getfield 45, 3) := by decide +kernel
theorem d_M_begin_107 : decode c_M_begin 107 = .ok (.iload_n 3, 1) := by decide +kernel
theorem d_M_begin_108 : decode c_M_begin 108 = .ok (.iaload, 1) := by decide +kernel
theorem d_M_begin_109 : decode c_M_begin 109 = .ok (.ifCond .eq 13, 3) := by decide +kernel
theorem d_M_begin_112 : decode c_M_begin 112 = .ok (.aload_n 0, 1) := by decide +kernel
theorem d_M_begin_113 : decode c_M_begin 113 = .ok (.getfield 45, 3) := by decide +kernel
theorem d_M_begin_116 : decode c_M_begin 116 = .ok (.iload_n 3, 1) := by decide +kernel
theorem d_M_begin_117 : decode c_M_begin 117 = .ok (.iaload, 1) := by decide +kernel
theorem d_M_begin_118 : decode c_M_begin 118 = .ok (.iconst 1, 1) := by decide +kernel
theorem d_M_begin_119 : decode c_M_begin 119 = .ok (.isub, 1) := by decide +kernel
theorem d_M_begin_120 : decode c_M_begin 120 = .ok (.i2l, 1) := by decide +kernel
theorem d_M_begin_121 : decode c_M_begin 121 = .ok (.lreturn, 1) := by decide +kernel
theorem d_M_begin_122 : decode c_M_begin 122 = .ok (.aload_n 0, 1) := by decide +kernel
theorem d_M_begin_123 : decode c_M_begin 123 = .ok (.iload_n 3, 1) := by decide +kernel
theorem d_M_begin_124 : decode c_M_begin 124 = .ok (.invokevirtual 119, 3) := by decide +kernel
theorem d_M_begin_127 : decode c_M_begin 127 = .ok (.ifCond .eq 7, 3) := by decide +kernel
theorem d_M_begin_130 : decode c_M_begin 130 = .ok (.ldc2_w 123, 3) := by decide +kernel
theorem d_M_begin_133 : decode c_M_begin 133 = .ok (.lreturn, 1) := by decide +kernel
theorem d_M_begin_134 : decode c_M_begin 134 = .ok (.aload_n 0, 1) := by decide +kernel
theorem d_M_begin_135 : decode c_M_begin 135 = .ok (.getfield 24, 3) := by decide +kernel
theorem d_M_begin_138 : decode c_M_begin 138 = .ok (.iload_n 3, 1) := by decide +kernel
theorem d_M_begin_139 : decode c_M_begin 139 = .ok (.iaload, 1) := by decide +kernel
theorem d_M_begin_140 : decode c_M_begin 140 = .ok (.iconst 3, 1) := by decide +kernel
theorem d_M_begin_141 : decode c_M_begin 141 = .ok (.if_icmp .ne 24, 3) := by decide +kernel
theorem d_M_begin_144 : decode c_M_begin 144 = .ok (.aload_n 0, 1) := by decide +kernel
theorem d_M_begin_145 : decode c_M_begin 145 = .ok (.getfield 30, 3) := by decide +kernel
theorem d_M_begin_148 : decode c_M_begin 148 = .ok (.iload_n 3, 1) := by decide +kernel
theorem d_M_begin_149 : decode c_M_begin 149 = .ok (.iaload, 1) := by decide +kernel
theorem d_M_begin_150 : decode c_M_begin 150 = .ok (.iconst 2, 1) := by decide +kernel
theorem d_M_begin_151 : decode c_M_begin 151 = .ok (.if_icmp .ne 14, 3) := by decide +kernel
theorem d_M_begin_154 : decode c_M_begin 154 = .ok (.aload_n 0, 1) := by decide +kernel
theorem d_M_begin_155 : decode c_M_begin 155 = .ok (.getfield 100, 3) := by decide +kernel
theorem d_M_begin_158 : decode c_M_begin 158 = .ok (.ifCond .ne 7, 3) := by decide +kernel
theorem d_M_begin_161 : decode c_M_begin 161 = .ok (.ldc2_w 125, 3) := by decide +kernel
theorem d_M_begin_164 : decode c_M_begin 164 = .ok (.lreturn, 1) := by decide +kernel
theorem d_M_begin_165 : decode c_M_begin 165 = .ok (.aload_n 0, 1) := by decide +kernel
theorem d_M_begin_166 : decode c_M_begin 166 = .ok (.getfield 76, 3) := by decide +kernel
theorem d_M_begin_169 : decode c_M_begin 169 = .ok (.aload_n 0, 1) := by decide +kernel
theorem d_M_begin_170 : decode c_M_begin 170 = .ok (.getfield 108, 3) := by decide +kernel
theorem d_M_begin_173 : decode c_M_begin 173 = .ok (.iload_n 3, 1) := by decide +kernel
theorem d_M_begin_174 : decode c_M_begin 174 = .ok (.iastore, 1) := by decide +kernel
theorem d_M_begin_175 : decode c_M_begin 175 = .ok (.aload_n 0, 1) := by decide +kernel
theorem d_M_begin_176 : decode c_M_begin 176 = .ok (.getfield 79, 3) := by decide +kernel
theorem d_M_begin_179 : decode c_M_begin 179 = .ok (.aload_n 0, 1) := by decide +kernel
theorem d_M_begin_180 : decode c_M_begin 180 = .ok (.getfield 108, 3) := by decide +kernel
theorem d_M_begin_183 : decode c_M_begin 183 = .ok (.iconst 0, 1) := by decide +kernel
theorem d_M_begin_184 : decode c_M_begin 184 = .ok (.iastore, 1) := by decide +kernel
theorem d_M_begin_185 : decode c_M_begin 185 = .ok (.aload_n 0, 1) := by decide +kernel
theorem d_M_begin_186 : decode c_M_begin 186 = .ok (.dup, 1) := by decide +kernel
theorem d_M_begin_187 : decode c_M_begin 187 = .ok (.getfield 108, 3) := by decide +kernel
theorem d_M_begin_190 : decode c_M_begin 190 = .ok (.iconst 1, 1) := by decide +kernel
theorem d_M_begin_191 : decode c_M_begin 191 = .ok (.iadd, 1) := by decide +kernel
theorem d_M_begin_192 : decode c_M_begin 192 = .ok (.putfield 108, 3) := by decide +kernel
theorem d_M_begin_195 : decode c_M_begin 195 = .ok (.ldc2_w 127, 3) := by decide +kernel
theorem d_M_begin_198 : decode c_M_begin 198 = .ok (.lreturn, 1) := by decide +kernel
theorem d_M_make_0 : decode c_M_make 0 = .ok (.aload_n 0, 1) := by decide +kernel
theorem d_M_make_1 : decode c_M_make 1 = .ok (.getfield 129, 3) := by decide +kernel
theorem d_M_make_4 : decode c_M_make 4 = .ok (.bipush 100, 2) := by decide +kernel
theorem d_M_make_6 : decode c_M_make 6 = .ok (.if_icmp .ne 7, 3) := by decide +kernel
theorem d_M_make_9 : decode c_M_make 9 = .ok (.ldc2_w 132, 3) := by decide +kernel
theorem d_M_make_12 : decode c_M_make 12 = .ok (.lreturn, 1) := by decide +kernel
theorem d_M_make_13 : decode c_M_make 13 = .ok (.aload_n 0, 1) := by decide +kernel
theorem d_M_make_14 : decode c_M_make 14 = .ok (.getfield 129, 3) := by decide +kernel
theorem d_M_make_17 : decode c_M_make 17 = .ok (.istore_n 3, 1) := by decide +kernel
theorem d_M_make_18 : decode c_M_make 18 = .ok (.aload_n 0, 1) := by decide +kernel
theorem d_M_make_19 : decode c_M_make 19 = .ok (.getfield 54, 3) := by decide +kernel
theorem d_M_make_22 : decode c_M_make 22 = .ok (.iload_n 3, 1) := by decide +kernel
theorem d_M_make_23 : decode c_M_make 23 = .ok (.iload_n 1, 1) := by decide +kernel
theorem d_M_make_24 : decode c_M_make 24 = .ok (.bipush 12, 2) := by decide +kernel
theorem d_M_make_26 : decode c_M_make 26 = .ok (.irem, 1) := by decide +kernel
theorem d_M_make_27 : decode c_M_make 27 = .ok (.iastore, 1) := by decide +kernel
theorem d_M_make_28 : decode c_M_make 28 = .ok (.aload_n 0, 1) := by decide +kernel
theorem d_M_make_29 : decode c_M_make 29 = .ok (.getfield 57, 3) := by decide +kernel
theorem d_M_make_32 : decode c_M_make 32 = .ok (.iload_n 3, 1) := by decide +kernel
theorem d_M_make_33 : decode c_M_make 33 = .ok (.iload_n 1, 1) := by decide +kernel
theorem d_M_make_34 : decode c_M_make 34 = .ok (.bipush 12, 2) := by decide +kernel
theorem d_M_make_36 : decode c_M_make 36 = .ok (.idiv, 1) := by decide +kernel
theorem d_M_make_37 : decode c_M_make 37 = .ok (.iastore, 1) := by decide +kernel
theorem d_M_make_38 : decode c_M_make 38 = .ok (.aload_n 0, 1) := by decide +kernel
theorem d_M_make_39 : decode c_M_make 39 = .ok (.getfield 60, 3) := by decide +kernel
theorem d_M_make_42 : decode c_M_make 42 = .ok (.iload_n 3, 1) := by decide +kernel
theorem d_M_make_43 : decode c_M_make 43 = .ok (.aload_n 0, 1) := by decide +kernel
theorem d_M_make_44 : decode c_M_make 44 = .ok (.getfield 30, 3) := by decide +kernel
theorem d_M_make_47 : decode c_M_make 47 = .ok (.iload_n 1, 1) := by decide +kernel
theorem d_M_make_48 : decode c_M_make 48 = .ok (.iaload, 1) := by decide +kernel
theorem d_M_make_49 : decode c_M_make 49 = .ok (.iastore, 1) := by decide +kernel
theorem d_M_make_50 : decode c_M_make 50 = .ok (.aload_n 0, 1) := by decide +kernel
theorem d_M_make_51 : decode c_M_make 51 = .ok (.getfield 63, 3) := by decide +kernel
theorem d_M_make_54 : decode c_M_make 54 = .ok (.iload_n 3, 1) := by decide +kernel
theorem d_M_make_55 : decode c_M_make 55 = .ok (.aload_n 0, 1) := by decide +kernel
theorem d_M_make_56 : decode c_M_make 56 = .ok (.getfield 33, 3) := by decide +kernel
theorem d_M_make_59 : decode c_M_make 59 = .ok (.iload_n 1, 1) := by decide +kernel
theorem d_M_make_60 : decode c_M_make 60 = .ok (.iaload, 1) := by decide +kernel
theorem d_M_make_61 : decode c_M_make 61 = .ok (.iastore, 1) := by decide +kernel
theorem d_M_make_62 : decode c_M_make 62 = .ok (.iconst 0, 1) := by decide +kernel
theorem d_M_make_63 : decode c_M_make 63 = .ok (.istore 4, 2) := by decide +kernel
theorem d_M_make_65 : decode c_M_make 65 = .ok (.iload 4, 2) := by decide +kernel
theorem d_M_make_67 : decode c_M_make 67 = .ok (.aload_n 0, 1) := by decide +kernel
theorem d_M_make_68 : decode c_M_make 68 = .ok (.getfield 33, 3) := by decide +kernel
theorem d_M_make_71 : decode c_M_make 71 = .ok (.iload_n 1, 1) := by decide +kernel
theorem d_M_make_72 : decode c_M_make 72 = .ok (.iaload, 1) := by decide +kernel
theorem d_M_make_73 : decode c_M_make 73 = .ok (.if_icmp .ge 75, 3) := by decide +kernel
theorem d_M_make_76 : decode c_M_make 76 = .ok (.aload_n 0, 1) := by decide +kernel
theorem d_M_make_77 : decode c_M_make 77 = .ok (.getfield 66, 3) := by decide +kernel
theorem d_M_make_80 : decode c_M_make 80 = .ok (.iconst 4, 1) := by decide +kernel
theorem d_M_make_81 : decode c_M_make 81 = .ok (.iload_n 3, 1) := by decide +kernel
theorem d_M_make_82 : decode c_M_make 82 = .ok (.imul, 1) := by decide +kernel
theorem d_M_make_83 : decode c_M_make 83 = .ok (.iload 4, 2) := by decide +kernel
theorem d_M_make_85 : decode c_M_make 85 = .ok (.iadd, 1) := by decide +kernel
theorem d_M_make_86 : decode c_M_make 86 = .ok (.aload_n 0, 1) := by decide +kernel
theorem d_M_make_87 : decode c_M_make 87 = .ok (.getfield 36, 3) := by decide +kernel
theorem d_M_make_90 : decode c_M_make 90 = .ok (.iconst 4, 1) := by decide +kernel
theorem d_M_make_91 : decode c_M_make 91 = .ok (.iload_n 1, 1) := by decide +kernel
theorem d_M_make_92 : decode c_M_make 92 = .ok (.imul, 1) := by decide +kernel
theorem d_M_make_93 : decode c_M_make 93 = .ok (.iload 4, 2) := by decide +kernel
theorem d_M_make_95 : decode c_M_make 95 = .ok (.iadd, 1) := by decide +kernel
theorem d_M_make_96 : decode c_M_make 96 = .ok (.iaload, 1) := by decide +kernel
theorem d_M_make_97 : decode c_M_make 97 = .ok (.iastore, 1) := by decide +kernel
theorem d_M_make_98 : decode c_M_make 98 = .ok (.aload_n 0, 1) := by decide +kernel
theorem d_M_make_99 : decode c_M_make 99 = .ok (.getfield 69, 3) := by decide +kernel
theorem d_M_make_102 : decode c_M_make 102 = .ok (.iconst 4, 1) := by decide +kernel
theorem d_M_make_103 : decode c_M_make 103 = .ok (.iload_n 3, 1) := by decide +kernel
theorem d_M_make_104 : decode c_M_make 104 = .ok (.imul, 1) := by decide +kernel
theorem d_M_make_105 : decode c_M_make 105 = .ok (.iload 4, 2) := by decide +kernel
theorem d_M_make_107 : decode c_M_make 107 = .ok (.iadd, 1) := by decide +kernel
theorem d_M_make_108 : decode c_M_make 108 = .ok (.aload_n 0, 1) := by decide +kernel
theorem d_M_make_109 : decode c_M_make 109 = .ok (.getfield 39, 3) := by decide +kernel
theorem d_M_make_112 : decode c_M_make 112 = .ok (.iconst 4, 1) := by decide +kernel
theorem d_M_make_113 : decode c_M_make 113 = .ok (.iload_n 1, 1) := by decide +kernel
theorem d_M_make_114 : decode c_M_make 114 = .ok (.imul, 1) := by decide +kernel
theorem d_M_make_115 : decode c_M_make 115 = .ok (.iload 4, 2) := by decide +kernel
theorem d_M_make_117 : decode c_M_make 117 = .ok (.iadd, 1) := by decide +kernel
theorem d_M_make_118 : decode c_M_make 118 = .ok (.baload, 1) := by decide +kernel
theorem d_M_make_119 : decode c_M_make 119 = .ok (.bastore, 1) := by decide +kernel
theorem d_M_make_120 : decode c_M_make 120 = .ok (.aload_n 0, 1) := by decide +kernel
theorem d_M_make_121 : decode c_M_make 121 = .ok (.getfield 72, 3) := by decide +kernel
theorem d_M_make_124 : decode c_M_make 124 = .ok (.iconst 4, 1) := by decide +kernel
theorem d_M_make_125 : decode c_M_make 125 = .ok (.iload_n 3, 1) := by decide +kernel
theorem d_M_make_126 : decode c_M_make 126 = .ok (.imul, 1) := by decide +kernel
theorem d_M_make_127 : decode c_M_make 127 = .ok (.iload 4, 2) := by decide +kernel
theorem d_M_make_129 : decode c_M_make 129 = .ok (.iadd, 1) := by decide +kernel
theorem d_M_make_130 : decode c_M_make 130 = .ok (.aload_n 0, 1) := by decide +kernel
theorem d_M_make_131 : decode c_M_make 131 = .ok (.getfield 82, 3) := by decide +kernel
theorem d_M_make_134 : decode c_M_make 134 = .ok (.iconst 4, 1) := by decide +kernel
theorem d_M_make_135 : decode c_M_make 135 = .ok (.iload_n 2, 1) := by decide +kernel
theorem d_M_make_136 : decode c_M_make 136 = .ok (.imul, 1) := by decide +kernel
theorem d_M_make_137 : decode c_M_make 137 = .ok (.iload 4, 2) := by decide +kernel
theorem d_M_make_139 : decode c_M_make 139 = .ok (.iadd, 1) := by decide +kernel
theorem d_M_make_140 : decode c_M_make 140 = .ok (.laload, 1) := by decide +kernel
theorem d_M_make_141 : decode c_M_make 141 = .ok (.lastore, 1) := by decide +kernel
theorem d_M_make_142 : decode c_M_make 142 = .ok (.iinc 4 1, 3) := by decide +kernel
theorem d_M_make_145 : decode c_M_make 145 = .ok (.goto (-80), 3) := by decide +kernel
theorem d_M_make_148 : decode c_M_make 148 = .ok (.aload_n 0, 1) := by decide +kernel
theorem d_M_make_149 : decode c_M_make 149 = .ok (.dup, 1) := by decide +kernel
theorem d_M_make_150 : decode c_M_make 150 = .ok (.getfield 129, 3) := by decide +kernel
theorem d_M_make_153 : decode c_M_make 153 = .ok (.iconst 1, 1) := by decide +kernel
theorem d_M_make_154 : decode c_M_make 154 = .ok (.iadd, 1) := by decide +kernel
theorem d_M_make_155 : decode c_M_make 155 = .ok (.putfield 129, 3) := by decide +kernel
theorem d_M_make_158 : decode c_M_make 158 = .ok (.aload_n 0, 1) := by decide +kernel
theorem d_M_make_159 : decode c_M_make 159 = .ok (.getfield 30, 3) := by decide +kernel
theorem d_M_make_162 : decode c_M_make 162 = .ok (.iload_n 1, 1) := by decide +kernel
theorem d_M_make_163 : decode c_M_make 163 = .ok (.iaload, 1) := by decide +kernel
theorem d_M_make_164 : decode c_M_make 164 = .ok (.iconst 1, 1) := by decide +kernel
theorem d_M_make_165 : decode c_M_make 165 = .ok (.if_icmp .ne 13, 3) := by decide +kernel
theorem d_M_make_168 : decode c_M_make 168 = .ok (.aload_n 0, 1) := by decide +kernel
theorem d_M_make_169 : decode c_M_make 169 = .ok (.getfield 42, 3) := by decide +kernel
theorem d_M_make_172 : decode c_M_make 172 = .ok (.iload_n 1, 1) := by decide +kernel
theorem d_M_make_173 : decode c_M_make 173 = .ok (.aload_n 0, 1) := by decide +kernel
theorem d_M_make_174 : decode c_M_make 174 = .ok (.getfield 129, 3) := by decide +kernel
theorem d_M_make_177 : decode c_M_make 177 = .ok (.iastore, 1) := by decide +kernel
theorem d_M_make_178 : decode c_M_make 178 = .ok (.aload_n 0, 1) := by decide +kernel
theorem d_M_make_179 : decode c_M_make 179 = .ok (.getfield 30, 3) := by decide +kernel
theorem d_M_make_182 : decode c_M_make 182 = .ok (.iload_n 1, 1) := by decide +kernel
theorem d_M_make_183 : decode c_M_make 183 = .ok (.iaload, 1) := by decide +kernel
theorem d_M_make_184 : decode c_M_make 184 = .ok (.iconst 2, 1) := by decide +kernel
theorem d_M_make_185 : decode c_M_make 185 = .ok (.if_icmp .ne 13, 3) := by decide +kernel
theorem d_M_make_188 : decode c_M_make 188 = .ok (.aload_n 0, 1) := by decide +kernel
theorem d_M_make_189 : decode c_M_make 189 = .ok (.getfield 45, 3) := by decide +kernel
theorem d_M_make_192 : decode c_M_make 192 = .ok (.iload_n 1, 1) := by decide +kernel
theorem d_M_make_193 : decode c_M_make 193 = .ok (.aload_n 0, 1) := by decide +kernel
theorem d_M_make_194 : decode c_M_make 194 = .ok (.getfield 129, 3) := by decide +kernel
theorem d_M_make_197 : decode c_M_make 197 = .ok (.iastore, 1) := by decide +kernel
theorem d_M_make_198 : decode c_M_make 198 = .ok (.iload_n 3, 1) := by decide +kernel
theorem d_M_make_199 : decode c_M_make 199 = .ok (.i2l, 1) := by decide +kernel
theorem d_M_make_200 : decode c_M_make 200 = .ok (.lreturn, 1) := by decide +kernel
theorem d_M_work_0 : decode c_M_work 0 = .ok (.aload_n 0, 1) := by decide +kernel
theorem d_M_work_1 : decode c_M_work 1 = .ok (.getfield 108, 3) := by decide +kernel
theorem d_M_work_4 : decode c_M_work 4 = .ok (.iconst 1, 1) := by decide +kernel
theorem d_M_work_5 : decode c_M_work 5 = .ok (.isub, 1) := by decide +kernel
theorem d_M_work_6 : decode c_M_work 6 = .ok (.istore_n 1, 1) := by decide +kernel
theorem d_M_work_7 : decode c_M_work 7 = .ok (.aload_n 0, 1) := by decide +kernel
theorem d_M_work_8 : decode c_M_work 8 = .ok (.getfield 76, 3) := by decide +kernel
theorem d_M_work_11 : decode c_M_work 11 = .ok (.iload_n 1, 1) := by decide +kernel
theorem d_M_work_12 : decode c_M_work 12 = .ok (.iaload, 1) := by decide +kernel
theorem d_M_work_13 : decode c_M_work 13 = .ok (.istore_n 2, 1) := by decide +kernel
theorem d_M_work_14 : decode c_M_work 14 = .ok (.aload_n 0, 1) := by decide +kernel
theorem d_M_work_15 : decode c_M_work 15 = .ok (.getfield 24, 3) := by decide +kernel
theorem d_M_work_18 : decode c_M_work 18 = .ok (.iload_n 2, 1) := by decide +kernel
theorem d_M_work_19 : decode c_M_work 19 = .ok (.iaload, 1) := by decide +kernel
theorem d_M_work_20 : decode c_M_work 20 = .ok (.iconst 2, 1) := by decide +kernel
theorem d_M_work_21 : decode c_M_work 21 = .ok (.if_icmp .ne 38, 3) := by decide +kernel
theorem d_M_work_24 : decode c_M_work 24 = .ok (.aload_n 0, 1) := by decide +kernel
theorem d_M_work_25 : decode c_M_work 25 = .ok (.getfield 79, 3) := by decide +kernel
theorem d_M_work_28 : decode c_M_work 28 = .ok (.iload_n 1, 1) := by decide +kernel
theorem d_M_work_29 : decode c_M_work 29 = .ok (.iaload, 1) := by decide +kernel
theorem d_M_work_30 : decode c_M_work 30 = .ok (.ifCond .ne 20, 3) := by decide +kernel
theorem d_M_work_33 : decode c_M_work 33 = .ok (.aload_n 0, 1) := by decide +kernel
theorem d_M_work_34 : decode c_M_work 34 = .ok (.iload_n 2, 1) := by decide +kernel
theorem d_M_work_35 : decode c_M_work 35 = .ok (.bipush 12, 2) := by decide +kernel
theorem d_M_work_37 : decode c_M_work 37 = .ok (.idiv, 1) := by decide +kernel
theorem d_M_work_38 : decode c_M_work 38 = .ok (.aload_n 0, 1) := by decide +kernel
theorem d_M_work_39 : decode c_M_work 39 = .ok (.getfield 27, 3) := by decide +kernel
theorem d_M_work_42 : decode c_M_work 42 = .ok (.iload_n 2, 1) := by decide +kernel
theorem d_M_work_43 : decode c_M_work 43 = .ok (.iaload, 1) := by decide +kernel
theorem d_M_work_44 : decode c_M_work 44 = .ok (.invokevirtual 134, 3) := by decide +kernel
theorem d_M_work_47 : decode c_M_work 47 = .ok (.goto 11, 3) := by decide +kernel
theorem d_M_work_50 : decode c_M_work 50 = .ok (.aload_n 0, 1) := by decide +kernel
theorem d_M_work_51 : decode c_M_work 51 = .ok (.getfield 82, 3) := by decide +kernel
theorem d_M_work_54 : decode c_M_work 54 = .ok (.iconst 4, 1) := by decide +kernel
theorem d_M_work_55 : decode c_M_work 55 = .ok (.iload_n 1, 1) := by decide +kernel
theorem d_M_work_56 : decode c_M_work 56 = .ok (.imul, 1) := by decide +kernel
theorem d_M_work_57 : decode c_M_work 57 = .ok (.laload, 1) := by decide +kernel
theorem d_M_work_58 : decode c_M_work 58 = .ok (.lreturn, 1) := by decide +kernel
theorem d_M_work_59 : decode c_M_work 59 = .ok (.aload_n 0, 1) := by decide +kernel
theorem d_M_work_60 : decode c_M_work 60 = .ok (.getfield 79, 3) := by decide +kernel
theorem d_M_work_63 : decode c_M_work 63 = .ok (.iload_n 1, 1) := by decide +kernel
theorem d_M_work_64 : decode c_M_work 64 = .ok (.iaload, 1) := by decide +kernel
theorem d_M_work_65 : decode c_M_work 65 = .ok (.aload_n 0, 1) := by decide +kernel
theorem d_M_work_66 : decode c_M_work 66 = .ok (.getfield 33, 3) := by decide +kernel
theorem d_M_work_69 : decode c_M_work 69 = .ok (.iload_n 2, 1) := by decide +kernel
theorem d_M_work_70 : decode c_M_work 70 = .ok (.iaload, 1) := by decide +kernel
theorem d_M_work_71 : decode c_M_work 71 = .ok (.if_icmp .ge 102, 3) := by decide +kernel
theorem d_M_work_74 : decode c_M_work 74 = .ok (.iconst 4, 1) := by decide +kernel
theorem d_M_work_75 : decode c_M_work 75 = .ok (.iload_n 2, 1) := by decide +kernel
theorem d_M_work_76 : decode c_M_work 76 = .ok (.imul, 1) := by decide +kernel
theorem d_M_work_77 : decode c_M_work 77 = .ok (.aload_n 0, 1) := by decide +kernel
theorem d_M_work_78 : decode c_M_work 78 = .ok (.getfield 79, 3) := by decide +kernel
theorem d_M_work_81 : decode c_M_work 81 = .ok (.iload_n 1, 1) := by decide +kernel
theorem d_M_work_82 : decode c_M_work 82 = .ok (.iaload, 1) := by decide +kernel
theorem d_M_work_83 : decode c_M_work 83 = .ok (.iadd, 1) := by decide +kernel
theorem d_M_work_84 : decode c_M_work 84 = .ok (.istore_n 3, 1) := by decide +kernel
theorem d_M_work_85 : decode c_M_work 85 = .ok (.aload_n 0, 1) := by decide +kernel
theorem d_M_work_86 : decode c_M_work 86 = .ok (.getfield 39, 3) := by decide +kernel
theorem d_M_work_89 : decode c_M_work 89 = .ok (.iload_n 3, 1) := by decide +kernel
theorem d_M_work_90 : decode c_M_work 90 = .ok (.baload, 1) := by decide +kernel
theorem d_M_work_91 : decode c_M_work 91 = .ok (.ifCond .eq 26, 3) := by decide +kernel
theorem d_M_work_94 : decode c_M_work 94 = .ok (.ldc2_w 138, 3) := by decide +kernel
theorem d_M_work_97 : decode c_M_work 97 = .ok (.bipush 16, 2) := by decide +kernel
theorem d_M_work_99 : decode c_M_work 99 = .ok (.iload_n 2, 1) := by decide +kernel
theorem d_M_work_100 : decode c_M_work 100 = .ok (.bipush 12, 2) := by decide +kernel
theorem d_M_work_102 : decode c_M_work 102 = .ok (.idiv, 1) := by decide +kernel
theorem d_M_work_103 : decode c_M_work 103 = .ok (.imul, 1) := by decide +kernel
theorem d_M_work_104 : decode c_M_work 104 = .ok (.i2l, 1) := by decide +kernel
theorem d_M_work_105 : decode c_M_work 105 = .ok (.ladd, 1) := by decide +kernel
theorem d_M_work_106 : decode c_M_work 106 = .ok (.aload_n 0, 1) := by decide +kernel
theorem d_M_work_107 : decode c_M_work 107 = .ok (.getfield 36, 3) := by decide +kernel
theorem d_M_work_110 : decode c_M_work 110 = .ok (.iload_n 3, 1) := by decide +kernel
theorem d_M_work_111 : decode c_M_work 111 = .ok (.iaload, 1) := by decide +kernel
theorem d_M_work_112 : decode c_M_work 112 = .ok (.i2l, 1) := by decide +kernel
theorem d_M_work_113 : decode c_M_work 113 = .ok (.ladd, 1) := by decide +kernel
theorem d_M_work_114 : decode c_M_work 114 = .ok (.goto 17, 3) := by decide +kernel
theorem d_M_work_117 : decode c_M_work 117 = .ok (.aload_n 0, 1) := by decide +kernel
theorem d_M_work_118 : decode c_M_work 118 = .ok (.iload_n 2, 1) := by decide +kernel
theorem d_M_work_119 : decode c_M_work 119 = .ok (.bipush 12, 2) := by decide +kernel
theorem d_M_work_121 : decode c_M_work 121 = .ok (.idiv, 1) := by decide +kernel
theorem d_M_work_122 : decode c_M_work 122 = .ok (.aload_n 0, 1) := by decide +kernel
theorem d_M_work_123 : decode c_M_work 123 = .ok (.getfield 36, 3) := by decide +kernel
theorem d_M_work_126 : decode c_M_work 126 = .ok (.iload_n 3, 1) := by decide +kernel
theorem d_M_work_127 : decode c_M_work 127 = .ok (.iaload, 1) := by decide +kernel
theorem d_M_work_128 : decode c_M_work 128 = .ok (.invokevirtual 134, 3) := by decide +kernel
theorem d_M_work_131 : decode c_M_work 131 = .ok (.lstore 4, 2) := by decide +kernel
theorem d_M_work_133 : decode c_M_work 133 = .ok (.lload 4, 2) := by decide +kernel
theorem d_M_work_135 : decode c_M_work 135 = .ok (.lconst 0, 1) := by decide +kernel
theorem d_M_work_136 : decode c_M_work 136 = .ok (.lcmp, 1) := by decide +kernel
theorem d_M_work_137 : decode c_M_work 137 = .ok (.ifCond .ge 6, 3) := by decide +kernel
theorem d_M_work_140 : decode c_M_work 140 = .ok (.lload 4, 2) := by decide +kernel
theorem d_M_work_142 : decode c_M_work 142 = .ok (.lreturn, 1) := by decide +kernel
theorem d_M_work_143 : decode c_M_work 143 = .ok (.aload_n 0, 1) := by decide +kernel
theorem d_M_work_144 : decode c_M_work 144 = .ok (.getfield 82, 3) := by decide +kernel
theorem d_M_work_147 : decode c_M_work 147 = .ok (.iconst 4, 1) := by decide +kernel
theorem d_M_work_148 : decode c_M_work 148 = .ok (.iload_n 1, 1) := by decide +kernel
theorem d_M_work_149 : decode c_M_work 149 = .ok (.imul, 1) := by decide +kernel
theorem d_M_work_150 : decode c_M_work 150 = .ok (.aload_n 0, 1) := by decide +kernel
theorem d_M_work_151 : decode c_M_work 151 = .ok (.getfield 79, 3) := by decide +kernel
theorem d_M_work_154 : decode c_M_work 154 = .ok (.iload_n 1, 1) := by decide +kernel
theorem d_M_work_155 : decode c_M_work 155 = .ok (.iaload, 1) := by decide +kernel
theorem d_M_work_156 : decode c_M_work 156 = .ok (.iadd, 1) := by decide +kernel
theorem d_M_work_157 : decode c_M_work 157 = .ok (.lload 4, 2) := by decide +kernel
theorem d_M_work_159 : decode c_M_work 159 = .ok (.lastore, 1) := by decide +kernel
theorem d_M_work_160 : decode c_M_work 160 = .ok (.aload_n 0, 1) := by decide +kernel
theorem d_M_work_161 : decode c_M_work 161 = .ok (.getfield 79, 3) := by decide +kernel
theorem d_M_work_164 : decode c_M_work 164 = .ok (.iload_n 1, 1) := by decide +kernel
theorem d_M_work_165 : decode c_M_work 165 = .ok (.dup2, 1) := by decide +kernel
theorem d_M_work_166 : decode c_M_work 166 = .ok (.iaload, 1) := by decide +kernel
theorem d_M_work_167 : decode c_M_work 167 = .ok (.iconst 1, 1) := by decide +kernel
theorem d_M_work_168 : decode c_M_work 168 = .ok (.iadd, 1) := by decide +kernel
theorem d_M_work_169 : decode c_M_work 169 = .ok (.iastore, 1) := by decide +kernel
theorem d_M_work_170 : decode c_M_work 170 = .ok (.goto (-111), 3) := by decide +kernel
theorem d_M_work_173 : decode c_M_work 173 = .ok (.aload_n 0, 1) := by decide +kernel
theorem d_M_work_174 : decode c_M_work 174 = .ok (.iload_n 2, 1) := by decide +kernel
theorem d_M_work_175 : decode c_M_work 175 = .ok (.iload_n 1, 1) := by decide +kernel
theorem d_M_work_176 : decode c_M_work 176 = .ok (.invokevirtual 140, 3) := by decide +kernel
theorem d_M_work_179 : decode c_M_work 179 = .ok (.lreturn, 1) := by decide +kernel
end
section
theorem d_M_took_0 : decode c_M_took 0 = .ok (.aload_n 0, 1) := by decide +kernel
theorem d_M_took_1 : decode c_M_took 1 = .ok (.getfield 108, 3) := by decide +kernel
theorem d_M_took_4 : decode c_M_took 4 = .ok (.iload_n 3, 1) := by decide +kernel
theorem d_M_took_5 : decode c_M_took 5 = .ok (.if_icmp .ne 37, 3) := by decide +kernel
theorem d_M_took_8 : decode c_M_took 8 = .ok (.aload_n 0, 1) := by decide +kernel
theorem d_M_took_9 : decode c_M_took 9 = .ok (.getfield 24, 3) := by decide +kernel
theorem d_M_took_12 : decode c_M_took 12 = .ok (.aload_n 0, 1) := by decide +kernel
theorem d_M_took_13 : decode c_M_took 13 = .ok (.getfield 76, 3) := by decide +kernel
theorem d_M_took_16 : decode c_M_took 16 = .ok (.aload_n 0, 1) := by decide +kernel
theorem d_M_took_17 : decode c_M_took 17 = .ok (.getfield 108, 3) := by decide +kernel
theorem d_M_took_20 : decode c_M_took 20 = .ok (.iconst 1, 1) := by decide +kernel
theorem d_M_took_21 : decode c_M_took 21 = .ok (.isub, 1) := by decide +kernel
theorem d_M_took_22 : decode c_M_took 22 = .ok (.iaload, 1) := by decide +kernel
theorem d_M_took_23 : decode c_M_took 23 = .ok (.iaload, 1) := by decide +kernel
theorem d_M_took_24 : decode c_M_took 24 = .ok (.iconst 2, 1) := by decide +kernel
theorem d_M_took_25 : decode c_M_took 25 = .ok (.if_icmp .ne 17, 3) := by decide +kernel
theorem d_M_took_28 : decode c_M_took 28 = .ok (.aload_n 0, 1) := by decide +kernel
theorem d_M_took_29 : decode c_M_took 29 = .ok (.getfield 79, 3) := by decide +kernel
theorem d_M_took_32 : decode c_M_took 32 = .ok (.aload_n 0, 1) := by decide +kernel
theorem d_M_took_33 : decode c_M_took 33 = .ok (.getfield 108, 3) := by decide +kernel
theorem d_M_took_36 : decode c_M_took 36 = .ok (.iconst 1, 1) := by decide +kernel
theorem d_M_took_37 : decode c_M_took 37 = .ok (.isub, 1) := by decide +kernel
theorem d_M_took_38 : decode c_M_took 38 = .ok (.iaload, 1) := by decide +kernel
theorem d_M_took_39 : decode c_M_took 39 = .ok (.ifCond .eq 5, 3) := by decide +kernel
theorem d_M_took_42 : decode c_M_took 42 = .ok (.iconst 0, 1) := by decide +kernel
theorem d_M_took_43 : decode c_M_took 43 = .ok (.ireturn, 1) := by decide +kernel
theorem d_M_took_44 : decode c_M_took 44 = .ok (.aload_n 0, 1) := by decide +kernel
theorem d_M_took_45 : decode c_M_took 45 = .ok (.getfield 82, 3) := by decide +kernel
theorem d_M_took_48 : decode c_M_took 48 = .ok (.iconst 4, 1) := by decide +kernel
theorem d_M_took_49 : decode c_M_took 49 = .ok (.aload_n 0, 1) := by decide +kernel
theorem d_M_took_50 : decode c_M_took 50 = .ok (.getfield 108, 3) := by decide +kernel
theorem d_M_took_53 : decode c_M_took 53 = .ok (.iconst 1, 1) := by decide +kernel
theorem d_M_took_54 : decode c_M_took 54 = .ok (.isub, 1) := by decide +kernel
theorem d_M_took_55 : decode c_M_took 55 = .ok (.imul, 1) := by decide +kernel
theorem d_M_took_56 : decode c_M_took 56 = .ok (.lload_n 1, 1) := by decide +kernel
theorem d_M_took_57 : decode c_M_took 57 = .ok (.lastore, 1) := by decide +kernel
theorem d_M_took_58 : decode c_M_took 58 = .ok (.aload_n 0, 1) := by decide +kernel
theorem d_M_took_59 : decode c_M_took 59 = .ok (.getfield 79, 3) := by decide +kernel
theorem d_M_took_62 : decode c_M_took 62 = .ok (.aload_n 0, 1) := by decide +kernel
theorem d_M_took_63 : decode c_M_took 63 = .ok (.getfield 108, 3) := by decide +kernel
theorem d_M_took_66 : decode c_M_took 66 = .ok (.iconst 1, 1) := by decide +kernel
theorem d_M_took_67 : decode c_M_took 67 = .ok (.isub, 1) := by decide +kernel
theorem d_M_took_68 : decode c_M_took 68 = .ok (.iconst 1, 1) := by decide +kernel
theorem d_M_took_69 : decode c_M_took 69 = .ok (.iastore, 1) := by decide +kernel
theorem d_M_took_70 : decode c_M_took 70 = .ok (.iconst 1, 1) := by decide +kernel
theorem d_M_took_71 : decode c_M_took 71 = .ok (.ireturn, 1) := by decide +kernel
theorem d_M_gets_0 : decode c_M_gets 0 = .ok (.aload_n 0, 1) := by decide +kernel
theorem d_M_gets_1 : decode c_M_gets 1 = .ok (.iconst 0, 1) := by decide +kernel
theorem d_M_gets_2 : decode c_M_gets 2 = .ok (.putfield 108, 3) := by decide +kernel
theorem d_M_gets_5 : decode c_M_gets 5 = .ok (.aload_n 0, 1) := by decide +kernel
theorem d_M_gets_6 : decode c_M_gets 6 = .ok (.iload_n 1, 1) := by decide +kernel
theorem d_M_gets_7 : decode c_M_gets 7 = .ok (.iload_n 2, 1) := by decide +kernel
theorem d_M_gets_8 : decode c_M_gets 8 = .ok (.invokevirtual 134, 3) := by decide +kernel
theorem d_M_gets_11 : decode c_M_gets 11 = .ok (.lstore_n 3, 1) := by decide +kernel
theorem d_M_gets_12 : decode c_M_gets 12 = .ok (.iconst 0, 1) := by decide +kernel
theorem d_M_gets_13 : decode c_M_gets 13 = .ok (.istore 5, 2) := by decide +kernel
theorem d_M_gets_15 : decode c_M_gets 15 = .ok (.iload 5, 2) := by decide +kernel
theorem d_M_gets_17 : decode c_M_gets 17 = .ok (.ldc 143, 2) := by decide +kernel
theorem d_M_gets_19 : decode c_M_gets 19 = .ok (.if_icmp .ge 122, 3) := by decide +kernel
theorem d_M_gets_22 : decode c_M_gets 22 = .ok (.aload_n 0, 1) := by decide +kernel
theorem d_M_gets_23 : decode c_M_gets 23 = .ok (.getfield 108, 3) := by decide +kernel
theorem d_M_gets_26 : decode c_M_gets 26 = .ok (.ifCond .le 115, 3) := by decide +kernel
theorem d_M_gets_29 : decode c_M_gets 29 = .ok (.lload_n 3, 1) := by decide +kernel
theorem d_M_gets_30 : decode c_M_gets 30 = .ok (.lconst 0, 1) := by decide +kernel
theorem d_M_gets_31 : decode c_M_gets 31 = .ok (.lcmp, 1) := by decide +kernel
theorem d_M_gets_32 : decode c_M_gets 32 = .ok (.ifCond .ge 13, 3) := by decide +kernel
theorem d_M_gets_35 : decode c_M_gets 35 = .ok (.lload_n 3, 1) := by decide +kernel
theorem d_M_gets_36 : decode c_M_gets 36 = .ok (.ldc2_w 127, 3) := by decide +kernel
theorem d_M_gets_39 : decode c_M_gets 39 = .ok (.lcmp, 1) := by decide +kernel
theorem d_M_gets_40 : decode c_M_gets 40 = .ok (.ifCond .eq 5, 3) := by decide +kernel
theorem d_M_gets_43 : decode c_M_gets 43 = .ok (.lload_n 3, 1) := by decide +kernel
theorem d_M_gets_44 : decode c_M_gets 44 = .ok (.lreturn, 1) := by decide +kernel
theorem d_M_gets_45 : decode c_M_gets 45 = .ok (.aload_n 0, 1) := by decide +kernel
theorem d_M_gets_46 : decode c_M_gets 46 = .ok (.getfield 108, 3) := by decide +kernel
theorem d_M_gets_49 : decode c_M_gets 49 = .ok (.istore 6, 2) := by decide +kernel
theorem d_M_gets_51 : decode c_M_gets 51 = .ok (.aload_n 0, 1) := by decide +kernel
theorem d_M_gets_52 : decode c_M_gets 52 = .ok (.invokevirtual 144, 3) := by decide +kernel
theorem d_M_gets_55 : decode c_M_gets 55 = .ok (.lstore_n 3, 1) := by decide +kernel
theorem d_M_gets_56 : decode c_M_gets 56 = .ok (.lload_n 3, 1) := by decide +kernel
theorem d_M_gets_57 : decode c_M_gets 57 = .ok (.lconst 0, 1) := by decide +kernel
theorem d_M_gets_58 : decode c_M_gets 58 = .ok (.lcmp, 1) := by decide +kernel
theorem d_M_gets_59 : decode c_M_gets 59 = .ok (.ifCond .lt 76, 3) := by decide +kernel
theorem d_M_gets_62 : decode c_M_gets 62 = .ok (.aload_n 0, 1) := by decide +kernel
theorem d_M_gets_63 : decode c_M_gets 63 = .ok (.lload_n 3, 1) := by decide +kernel
theorem d_M_gets_64 : decode c_M_gets 64 = .ok (.iload 6, 2) := by decide +kernel
theorem d_M_gets_66 : decode c_M_gets 66 = .ok (.invokevirtual 148, 3) := by decide +kernel
theorem d_M_gets_69 : decode c_M_gets 69 = .ok (.ifCond .eq 6, 3) := by decide +kernel
theorem d_M_gets_72 : decode c_M_gets 72 = .ok (.goto 63, 3) := by decide +kernel
theorem d_M_gets_75 : decode c_M_gets 75 = .ok (.aload_n 0, 1) := by decide +kernel
theorem d_M_gets_76 : decode c_M_gets 76 = .ok (.dup, 1) := by decide +kernel
theorem d_M_gets_77 : decode c_M_gets 77 = .ok (.getfield 108, 3) := by decide +kernel
theorem d_M_gets_80 : decode c_M_gets 80 = .ok (.iconst 1, 1) := by decide +kernel
theorem d_M_gets_81 : decode c_M_gets 81 = .ok (.isub, 1) := by decide +kernel
theorem d_M_gets_82 : decode c_M_gets 82 = .ok (.putfield 108, 3) := by decide +kernel
theorem d_M_gets_85 : decode c_M_gets 85 = .ok (.aload_n 0, 1) := by decide +kernel
theorem d_M_gets_86 : decode c_M_gets 86 = .ok (.getfield 108, 3) := by decide +kernel
theorem d_M_gets_89 : decode c_M_gets 89 = .ok (.ifCond .ne 5, 3) := by decide +kernel
theorem d_M_gets_92 : decode c_M_gets 92 = .ok (.lload_n 3, 1) := by decide +kernel
theorem d_M_gets_93 : decode c_M_gets 93 = .ok (.lreturn, 1) := by decide +kernel
theorem d_M_gets_94 : decode c_M_gets 94 = .ok (.aload_n 0, 1) := by decide +kernel
theorem d_M_gets_95 : decode c_M_gets 95 = .ok (.getfield 82, 3) := by decide +kernel
theorem d_M_gets_98 : decode c_M_gets 98 = .ok (.iconst 4, 1) := by decide +kernel
theorem d_M_gets_99 : decode c_M_gets 99 = .ok (.aload_n 0, 1) := by decide +kernel
theorem d_M_gets_100 : decode c_M_gets 100 = .ok (.getfield 108, 3) := by decide +kernel
theorem d_M_gets_103 : decode c_M_gets 103 = .ok (.iconst 1, 1) := by decide +kernel
theorem d_M_gets_104 : decode c_M_gets 104 = .ok (.isub, 1) := by decide +kernel
theorem d_M_gets_105 : decode c_M_gets 105 = .ok (.imul, 1) := by decide +kernel
theorem d_M_gets_106 : decode c_M_gets 106 = .ok (.aload_n 0, 1) := by decide +kernel
theorem d_M_gets_107 : decode c_M_gets 107 = .ok (.getfield 79, 3) := by decide +kernel
theorem d_M_gets_110 : decode c_M_gets 110 = .ok (.aload_n 0, 1) := by decide +kernel
theorem d_M_gets_111 : decode c_M_gets 111 = .ok (.getfield 108, 3) := by decide +kernel
theorem d_M_gets_114 : decode c_M_gets 114 = .ok (.iconst 1, 1) := by decide +kernel
theorem d_M_gets_115 : decode c_M_gets 115 = .ok (.isub, 1) := by decide +kernel
theorem d_M_gets_116 : decode c_M_gets 116 = .ok (.iaload, 1) := by decide +kernel
theorem d_M_gets_117 : decode c_M_gets 117 = .ok (.iadd, 1) := by decide +kernel
theorem d_M_gets_118 : decode c_M_gets 118 = .ok (.lload_n 3, 1) := by decide +kernel
theorem d_M_gets_119 : decode c_M_gets 119 = .ok (.lastore, 1) := by decide +kernel
theorem d_M_gets_120 : decode c_M_gets 120 = .ok (.aload_n 0, 1) := by decide +kernel
theorem d_M_gets_121 : decode c_M_gets 121 = .ok (.getfield 79, 3) := by decide +kernel
theorem d_M_gets_124 : decode c_M_gets 124 = .ok (.aload_n 0, 1) := by decide +kernel
theorem d_M_gets_125 : decode c_M_gets 125 = .ok (.getfield 108, 3) := by decide +kernel
theorem d_M_gets_128 : decode c_M_gets 128 = .ok (.iconst 1, 1) := by decide +kernel
theorem d_M_gets_129 : decode c_M_gets 129 = .ok (.isub, 1) := by decide +kernel
theorem d_M_gets_130 : decode c_M_gets 130 = .ok (.dup2, 1) := by decide +kernel
theorem d_M_gets_131 : decode c_M_gets 131 = .ok (.iaload, 1) := by decide +kernel
theorem d_M_gets_132 : decode c_M_gets 132 = .ok (.iconst 1, 1) := by decide +kernel
theorem d_M_gets_133 : decode c_M_gets 133 = .ok (.iadd, 1) := by decide +kernel
theorem d_M_gets_134 : decode c_M_gets 134 = .ok (.iastore, 1) := by decide +kernel
theorem d_M_gets_135 : decode c_M_gets 135 = .ok (.iinc 5 1, 3) := by decide +kernel
theorem d_M_gets_138 : decode c_M_gets 138 = .ok (.goto (-123), 3) := by decide +kernel
theorem d_M_gets_141 : decode c_M_gets 141 = .ok (.lload_n 3, 1) := by decide +kernel
theorem d_M_gets_142 : decode c_M_gets 142 = .ok (.lreturn, 1) := by decide +kernel
theorem d_M_keepCopies_0 : decode c_M_keepCopies 0 = .ok (.iconst 0, 1) := by decide +kernel
theorem d_M_keepCopies_1 : decode c_M_keepCopies 1 = .ok (.istore_n 1, 1) := by decide +kernel
theorem d_M_keepCopies_2 : decode c_M_keepCopies 2 = .ok (.iload_n 1, 1) := by decide +kernel
theorem d_M_keepCopies_3 : decode c_M_keepCopies 3 = .ok (.bipush 36, 2) := by decide +kernel
theorem d_M_keepCopies_5 : decode c_M_keepCopies 5 = .ok (.if_icmp .ge 33, 3) := by decide +kernel
theorem d_M_keepCopies_8 : decode c_M_keepCopies 8 = .ok (.aload_n 0, 1) := by decide +kernel
theorem d_M_keepCopies_9 : decode c_M_keepCopies 9 = .ok (.getfield 48, 3) := by decide +kernel
theorem d_M_keepCopies_12 : decode c_M_keepCopies 12 = .ok (.iload_n 1, 1) := by decide +kernel
theorem d_M_keepCopies_13 : decode c_M_keepCopies 13 = .ok (.aload_n 0, 1) := by decide +kernel
theorem d_M_keepCopies_14 : decode c_M_keepCopies 14 = .ok (.getfield 42, 3) := by decide +kernel
theorem d_M_keepCopies_17 : decode c_M_keepCopies 17 = .ok (.iload_n 1, 1) := by decide +kernel
theorem d_M_keepCopies_18 : decode c_M_keepCopies 18 = .ok (.iaload, 1) := by decide +kernel
theorem d_M_keepCopies_19 : decode c_M_keepCopies 19 = .ok (.iastore, 1) := by decide +kernel
theorem d_M_keepCopies_20 : decode c_M_keepCopies 20 = .ok (.aload_n 0, 1) := by decide +kernel
theorem d_M_keepCopies_21 : decode c_M_keepCopies 21 = .ok (.getfield 51, 3) := by decide +kernel
theorem d_M_keepCopies_24 : decode c_M_keepCopies 24 = .ok (.iload_n 1, 1) := by decide +kernel
theorem d_M_keepCopies_25 : decode c_M_keepCopies 25 = .ok (.aload_n 0, 1) := by decide +kernel
theorem d_M_keepCopies_26 : decode c_M_keepCopies 26 = .ok (.getfield 45, 3) := by decide +kernel
theorem d_M_keepCopies_29 : decode c_M_keepCopies 29 = .ok (.iload_n 1, 1) := by decide +kernel
theorem d_M_keepCopies_30 : decode c_M_keepCopies 30 = .ok (.iaload, 1) := by decide +kernel
theorem d_M_keepCopies_31 : decode c_M_keepCopies 31 = .ok (.iastore, 1) := by decide +kernel
theorem d_M_keepCopies_32 : decode c_M_keepCopies 32 = .ok (.iinc 1 1, 3) := by decide +kernel
theorem d_M_keepCopies_35 : decode c_M_keepCopies 35 = .ok (.goto (-33), 3) := by decide +kernel
theorem d_M_keepCopies_38 : decode c_M_keepCopies 38 = .ok (.return_, 1) := by decide +kernel
theorem d_M_takeBack_0 : decode c_M_takeBack 0 = .ok (.aload_n 0, 1) := by decide +kernel
theorem d_M_takeBack_1 : decode c_M_takeBack 1 = .ok (.iload_n 1, 1) := by decide +kernel
theorem d_M_takeBack_2 : decode c_M_takeBack 2 = .ok (.putfield 129, 3) := by decide +kernel
theorem d_M_takeBack_5 : decode c_M_takeBack 5 = .ok (.iconst 0, 1) := by decide +kernel
theorem d_M_takeBack_6 : decode c_M_takeBack 6 = .ok (.istore_n 2, 1) := by decide +kernel
theorem d_M_takeBack_7 : decode c_M_takeBack 7 = .ok (.iload_n 2, 1) := by decide +kernel
theorem d_M_takeBack_8 : decode c_M_takeBack 8 = .ok (.bipush 36, 2) := by decide +kernel
theorem d_M_takeBack_10 : decode c_M_takeBack 10 = .ok (.if_icmp .ge 33, 3) := by decide +kernel
theorem d_M_takeBack_13 : decode c_M_takeBack 13 = .ok (.aload_n 0, 1) := by decide +kernel
theorem d_M_takeBack_14 : decode c_M_takeBack 14 = .ok (.getfield 42, 3) := by decide +kernel
theorem d_M_takeBack_17 : decode c_M_takeBack 17 = .ok (.iload_n 2, 1) := by decide +kernel
theorem d_M_takeBack_18 : decode c_M_takeBack 18 = .ok (.aload_n 0, 1) := by decide +kernel
theorem d_M_takeBack_19 : decode c_M_takeBack 19 = .ok (.getfield 48, 3) := by decide +kernel
theorem d_M_takeBack_22 : decode c_M_takeBack 22 = .ok (.iload_n 2, 1) := by decide +kernel
theorem d_M_takeBack_23 : decode c_M_takeBack 23 = .ok (.iaload, 1) := by decide +kernel
theorem d_M_takeBack_24 : decode c_M_takeBack 24 = .ok (.iastore, 1) := by decide +kernel
theorem d_M_takeBack_25 : decode c_M_takeBack 25 = .ok (.aload_n 0, 1) := by decide +kernel
theorem d_M_takeBack_26 : decode c_M_takeBack 26 = .ok (.getfield 45, 3) := by decide +kernel
theorem d_M_takeBack_29 : decode c_M_takeBack 29 = .ok (.iload_n 2, 1) := by decide +kernel
theorem d_M_takeBack_30 : decode c_M_takeBack 30 = .ok (.aload_n 0, 1) := by decide +kernel
theorem d_M_takeBack_31 : decode c_M_takeBack 31 = .ok (.getfield 51, 3) := by decide +kernel
theorem d_M_takeBack_34 : decode c_M_takeBack 34 = .ok (.iload_n 2, 1) := by decide +kernel
theorem d_M_takeBack_35 : decode c_M_takeBack 35 = .ok (.iaload, 1) := by decide +kernel
theorem d_M_takeBack_36 : decode c_M_takeBack 36 = .ok (.iastore, 1) := by decide +kernel
theorem d_M_takeBack_37 : decode c_M_takeBack 37 = .ok (.iinc 2 1, 3) := by decide +kernel
theorem d_M_takeBack_40 : decode c_M_takeBack 40 = .ok (.goto (-33), 3) := by decide +kernel
theorem d_M_takeBack_43 : decode c_M_takeBack 43 = .ok (.return_, 1) := by decide +kernel
theorem d_M_get_0 : decode c_M_get 0 = .ok (.aload_n 0, 1) := by decide +kernel
theorem d_M_get_1 : decode c_M_get 1 = .ok (.iload_n 1, 1) := by decide +kernel
theorem d_M_get_2 : decode c_M_get 2 = .ok (.iload_n 2, 1) := by decide +kernel
theorem d_M_get_3 : decode c_M_get 3 = .ok (.invokevirtual 88, 3) := by decide +kernel
theorem d_M_get_6 : decode c_M_get 6 = .ok (.ifCond .eq 7, 3) := by decide +kernel
theorem d_M_get_9 : decode c_M_get 9 = .ok (.ldc2_w 152, 3) := by decide +kernel
theorem d_M_get_12 : decode c_M_get 12 = .ok (.lreturn, 1) := by decide +kernel
theorem d_M_get_13 : decode c_M_get 13 = .ok (.aload_n 0, 1) := by decide +kernel
theorem d_M_get_14 : decode c_M_get 14 = .ok (.getfield 129, 3) := by decide +kernel
theorem d_M_get_17 : decode c_M_get 17 = .ok (.istore_n 3, 1) := by decide +kernel
theorem d_M_get_18 : decode c_M_get 18 = .ok (.aload_n 0, 1) := by decide +kernel
theorem d_M_get_19 : decode c_M_get 19 = .ok (.invokevirtual 154, 3) := by decide +kernel
theorem d_M_get_22 : decode c_M_get 22 = .ok (.aload_n 0, 1) := by decide +kernel
theorem d_M_get_23 : decode c_M_get 23 = .ok (.iload_n 1, 1) := by decide +kernel
theorem d_M_get_24 : decode c_M_get 24 = .ok (.iload_n 2, 1) := by decide +kernel
theorem d_M_get_25 : decode c_M_get 25 = .ok (.invokevirtual 157, 3) := by decide +kernel
theorem d_M_get_28 : decode c_M_get 28 = .ok (.lstore 4, 2) := by decide +kernel
theorem d_M_get_30 : decode c_M_get 30 = .ok (.lload 4, 2) := by decide +kernel
theorem d_M_get_32 : decode c_M_get 32 = .ok (.lconst 0, 1) := by decide +kernel
theorem d_M_get_33 : decode c_M_get 33 = .ok (.lcmp, 1) := by decide +kernel
theorem d_M_get_34 : decode c_M_get 34 = .ok (.ifCond .ge 8, 3) := by decide +kernel
theorem d_M_get_37 : decode c_M_get 37 = .ok (.aload_n 0, 1) := by decide +kernel
theorem d_M_get_38 : decode c_M_get 38 = .ok (.iload_n 3, 1) := by decide +kernel
theorem d_M_get_39 : decode c_M_get 39 = .ok (.invokevirtual 160, 3) := by decide +kernel
theorem d_M_get_42 : decode c_M_get 42 = .ok (.lload 4, 2) := by decide +kernel
theorem d_M_get_44 : decode c_M_get 44 = .ok (.lreturn, 1) := by decide +kernel
theorem d_M_noNeed_0 : decode c_M_noNeed 0 = .ok (.iload_n 1, 1) := by decide +kernel
theorem d_M_noNeed_1 : decode c_M_noNeed 1 = .ok (.ifCond .lt 25, 3) := by decide +kernel
theorem d_M_noNeed_4 : decode c_M_noNeed 4 = .ok (.iload_n 1, 1) := by decide +kernel
theorem d_M_noNeed_5 : decode c_M_noNeed 5 = .ok (.aload_n 0, 1) := by decide +kernel
theorem d_M_noNeed_6 : decode c_M_noNeed 6 = .ok (.getfield 129, 3) := by decide +kernel
theorem d_M_noNeed_9 : decode c_M_noNeed 9 = .ok (.if_icmp .ge 17, 3) := by decide +kernel
theorem d_M_noNeed_12 : decode c_M_noNeed 12 = .ok (.iload_n 2, 1) := by decide +kernel
theorem d_M_noNeed_13 : decode c_M_noNeed 13 = .ok (.ifCond .lt 13, 3) := by decide +kernel
theorem d_M_noNeed_16 : decode c_M_noNeed 16 = .ok (.iload_n 2, 1) := by decide +kernel
theorem d_M_noNeed_17 : decode c_M_noNeed 17 = .ok (.aload_n 0, 1) := by decide +kernel
theorem d_M_noNeed_18 : decode c_M_noNeed 18 = .ok (.getfield 63, 3) := by decide +kernel
theorem d_M_noNeed_21 : decode c_M_noNeed 21 = .ok (.iload_n 1, 1) := by decide +kernel
theorem d_M_noNeed_22 : decode c_M_noNeed 22 = .ok (.iaload, 1) := by decide +kernel
theorem d_M_noNeed_23 : decode c_M_noNeed 23 = .ok (.if_icmp .lt 7, 3) := by decide +kernel
theorem d_M_noNeed_26 : decode c_M_noNeed 26 = .ok (.iconst 1, 1) := by decide +kernel
theorem d_M_noNeed_27 : decode c_M_noNeed 27 = .ok (.goto 4, 3) := by decide +kernel
theorem d_M_noNeed_30 : decode c_M_noNeed 30 = .ok (.iconst 0, 1) := by decide +kernel
theorem d_M_noNeed_31 : decode c_M_noNeed 31 = .ok (.ireturn, 1) := by decide +kernel
theorem d_M_ask_0 : decode c_M_ask 0 = .ok (.aload_n 0, 1) := by decide +kernel
theorem d_M_ask_1 : decode c_M_ask 1 = .ok (.iload_n 1, 1) := by decide +kernel
theorem d_M_ask_2 : decode c_M_ask 2 = .ok (.iload_n 2, 1) := by decide +kernel
theorem d_M_ask_3 : decode c_M_ask 3 = .ok (.invokevirtual 164, 3) := by decide +kernel
theorem d_M_ask_6 : decode c_M_ask 6 = .ok (.ifCond .eq 7, 3) := by decide +kernel
theorem d_M_ask_9 : decode c_M_ask 9 = .ok (.ldc2_w 152, 3) := by decide +kernel
theorem d_M_ask_12 : decode c_M_ask 12 = .ok (.lreturn, 1) := by decide +kernel
theorem d_M_ask_13 : decode c_M_ask 13 = .ok (.iconst 4, 1) := by decide +kernel
theorem d_M_ask_14 : decode c_M_ask 14 = .ok (.iload_n 1, 1) := by decide +kernel
theorem d_M_ask_15 : decode c_M_ask 15 = .ok (.imul, 1) := by decide +kernel
theorem d_M_ask_16 : decode c_M_ask 16 = .ok (.iload_n 2, 1) := by decide +kernel
theorem d_M_ask_17 : decode c_M_ask 17 = .ok (.iadd, 1) := by decide +kernel
theorem d_M_ask_18 : decode c_M_ask 18 = .ok (.istore_n 3, 1) := by decide +kernel
theorem d_M_ask_19 : decode c_M_ask 19 = .ok (.aload_n 0, 1) := by decide +kernel
theorem d_M_ask_20 : decode c_M_ask 20 = .ok (.getfield 69, 3) := by decide +kernel
theorem d_M_ask_23 : decode c_M_ask 23 = .ok (.iload_n 3, 1) := by decide +kernel
theorem d_M_ask_24 : decode c_M_ask 24 = .ok (.baload, 1) := by decide +kernel
theorem d_M_ask_25 : decode c_M_ask 25 = .ok (.ifCond .eq 22, 3) := by decide +kernel
theorem d_M_ask_28 : decode c_M_ask 28 = .ok (.aload_n 0, 1) := by decide +kernel
theorem d_M_ask_29 : decode c_M_ask 29 = .ok (.aload_n 0, 1) := by decide +kernel
theorem d_M_ask_30 : decode c_M_ask 30 = .ok (.getfield 57, 3) := by decide +kernel
theorem d_M_ask_33 : decode c_M_ask 33 = .ok (.iload_n 1, 1) := by decide +kernel
theorem d_M_ask_34 : decode c_M_ask 34 = .ok (.iaload, 1) := by decide +kernel
theorem d_M_ask_35 : decode c_M_ask 35 = .ok (.aload_n 0, 1) := by decide +kernel
theorem d_M_ask_36 : decode c_M_ask 36 = .ok (.getfield 66, 3) := by decide +kernel
theorem d_M_ask_39 : decode c_M_ask 39 = .ok (.iload_n 3, 1) := by decide +kernel
theorem d_M_ask_40 : decode c_M_ask 40 = .ok (.iaload, 1) := by decide +kernel
theorem d_M_ask_41 : decode c_M_ask 41 = .ok (.invokevirtual 167, 3) := by decide +kernel
theorem d_M_ask_44 : decode c_M_ask 44 = .ok (.goto 9, 3) := by decide +kernel
theorem d_M_ask_47 : decode c_M_ask 47 = .ok (.aload_n 0, 1) := by decide +kernel
theorem d_M_ask_48 : decode c_M_ask 48 = .ok (.getfield 72, 3) := by decide +kernel
theorem d_M_ask_51 : decode c_M_ask 51 = .ok (.iload_n 3, 1) := by decide +kernel
theorem d_M_ask_52 : decode c_M_ask 52 = .ok (.laload, 1) := by decide +kernel
theorem d_M_ask_53 : decode c_M_ask 53 = .ok (.lreturn, 1) := by decide +kernel
theorem d_M_held_0 : decode c_M_held 0 = .ok (.aload_n 0, 1) := by decide +kernel
theorem d_M_held_1 : decode c_M_held 1 = .ok (.iload_n 1, 1) := by decide +kernel
theorem d_M_held_2 : decode c_M_held 2 = .ok (.iload_n 2, 1) := by decide +kernel
theorem d_M_held_3 : decode c_M_held 3 = .ok (.invokevirtual 164, 3) := by decide +kernel
theorem d_M_held_6 : decode c_M_held 6 = .ok (.ifCond .eq 9, 3) := by decide +kernel
theorem d_M_held_9 : decode c_M_held 9 = .ok (.ldc2_w 152, 3) := by decide +kernel
theorem d_M_held_12 : decode c_M_held 12 = .ok (.goto 13, 3) := by decide +kernel
theorem d_M_held_15 : decode c_M_held 15 = .ok (.aload_n 0, 1) := by decide +kernel
theorem d_M_held_16 : decode c_M_held 16 = .ok (.getfield 72, 3) := by decide +kernel
theorem d_M_held_19 : decode c_M_held 19 = .ok (.iconst 4, 1) := by decide +kernel
theorem d_M_held_20 : decode c_M_held 20 = .ok (.iload_n 1, 1) := by decide +kernel
theorem d_M_held_21 : decode c_M_held 21 = .ok (.imul, 1) := by decide +kernel
theorem d_M_held_22 : decode c_M_held 22 = .ok (.iload_n 2, 1) := by decide +kernel
theorem d_M_held_23 : decode c_M_held 23 = .ok (.iadd, 1) := by decide +kernel
theorem d_M_held_24 : decode c_M_held 24 = .ok (.laload, 1) := by decide +kernel
theorem d_M_held_25 : decode c_M_held 25 = .ok (.lreturn, 1) := by decide +kernel
theorem d_M_about_0 : decode c_M_about 0 = .ok (.iload_n 1, 1) := by decide +kernel
theorem d_M_about_1 : decode c_M_about 1 = .ok (.ifCond .lt 20, 3) := by decide +kernel
theorem d_M_about_4 : decode c_M_about 4 = .ok (.iload_n 1, 1) := by decide +kernel
theorem d_M_about_5 : decode c_M_about 5 = .ok (.aload_n 0, 1) := by decide +kernel
theorem d_M_about_6 : decode c_M_about 6 = .ok (.getfield 129, 3) := by decide +kernel
theorem d_M_about_9 : decode c_M_about 9 = .ok (.if_icmp .ge 12, 3) := by decide +kernel
theorem d_M_about_12 : decode c_M_about 12 = .ok (.iload_n 2, 1) := by decide +kernel
theorem d_M_about_13 : decode c_M_about 13 = .ok (.ifCond .lt 8, 3) := by decide +kernel
theorem d_M_about_16 : decode c_M_about 16 = .ok (.iload_n 2, 1) := by decide +kernel
theorem d_M_about_17 : decode c_M_about 17 = .ok (.iconst 3, 1) := by decide +kernel
theorem d_M_about_18 : decode c_M_about 18 = .ok (.if_icmp .le 5, 3) := by decide +kernel
theorem d_M_about_21 : decode c_M_about 21 = .ok (.iconst (-1), 1) := by decide +kernel
theorem d_M_about_22 : decode c_M_about 22 = .ok (.ireturn, 1) := by decide +kernel
theorem d_M_about_23 : decode c_M_about 23 = .ok (.iload_n 2, 1) := by decide +kernel
theorem d_M_about_24 : decode c_M_about 24 = .ok (.ifCond .ne 12, 3) := by decide +kernel
theorem d_M_about_27 : decode c_M_about 27 = .ok (.aload_n 0, 1) := by decide +kernel
theorem d_M_about_28 : decode c_M_about 28 = .ok (.getfield 54, 3) := by decide +kernel
theorem d_M_about_31 : decode c_M_about 31 = .ok (.iload_n 1, 1) := by decide +kernel
theorem d_M_about_32 : decode c_M_about 32 = .ok (.iaload, 1) := by decide +kernel
theorem d_M_about_33 : decode c_M_about 33 = .ok (.goto 37, 3) := by decide +kernel
theorem d_M_about_36 : decode c_M_about 36 = .ok (.iload_n 2, 1) := by decide +kernel
theorem d_M_about_37 : decode c_M_about 37 = .ok (.iconst 1, 1) := by decide +kernel
theorem d_M_about_38 : decode c_M_about 38 = .ok (.if_icmp .ne 12, 3) := by decide +kernel
theorem d_M_about_41 : decode c_M_about 41 = .ok (.aload_n 0, 1) := by decide +kernel
theorem d_M_about_42 : decode c_M_about 42 = .ok (.getfield 57, 3) := by decide +kernel
theorem d_M_about_45 : decode c_M_about 45 = .ok (.iload_n 1, 1) := by decide +kernel
theorem d_M_about_46 : decode c_M_about 46 = .ok (.iaload, 1) := by decide +kernel
theorem d_M_about_47 : decode c_M_about 47 = .ok (.goto 23, 3) := by decide +kernel
theorem d_M_about_50 : decode c_M_about 50 = .ok (.iload_n 2, 1) := by decide +kernel
theorem d_M_about_51 : decode c_M_about 51 = .ok (.iconst 2, 1) := by decide +kernel
theorem d_M_about_52 : decode c_M_about 52 = .ok (.if_icmp .ne 12, 3) := by decide +kernel
theorem d_M_about_55 : decode c_M_about 55 = .ok (.aload_n 0, 1) := by decide +kernel
theorem d_M_about_56 : decode c_M_about 56 = .ok (.getfield 63, 3) := by decide +kernel
theorem d_M_about_59 : decode c_M_about 59 = .ok (.iload_n 1, 1) := by decide +kernel
theorem d_M_about_60 : decode c_M_about 60 = .ok (.iaload, 1) := by decide +kernel
theorem d_M_about_61 : decode c_M_about 61 = .ok (.goto 9, 3) := by decide +kernel
theorem d_M_about_64 : decode c_M_about 64 = .ok (.aload_n 0, 1) := by decide +kernel
theorem d_M_about_65 : decode c_M_about 65 = .ok (.getfield 60, 3) := by decide +kernel
theorem d_M_about_68 : decode c_M_about 68 = .ok (.iload_n 1, 1) := by decide +kernel
theorem d_M_about_69 : decode c_M_about 69 = .ok (.iaload, 1) := by decide +kernel
theorem d_M_about_70 : decode c_M_about 70 = .ok (.ireturn, 1) := by decide +kernel
theorem d_M_broken_0 : decode c_M_broken 0 = .ok (.iload_n 1, 1) := by decide +kernel
theorem d_M_broken_1 : decode c_M_broken 1 = .ok (.ifCond .lt 11, 3) := by decide +kernel
theorem d_M_broken_4 : decode c_M_broken 4 = .ok (.iload_n 1, 1) := by decide +kernel
theorem d_M_broken_5 : decode c_M_broken 5 = .ok (.aload_n 0, 1) := by decide +kernel
theorem d_M_broken_6 : decode c_M_broken 6 = .ok (.getfield 13, 3) := by decide +kernel
theorem d_M_broken_9 : decode c_M_broken 9 = .ok (.if_icmp .lt 5, 3) := by decide +kernel
theorem d_M_broken_12 : decode c_M_broken 12 = .ok (.iconst (-1), 1) := by decide +kernel
theorem d_M_broken_13 : decode c_M_broken 13 = .ok (.ireturn, 1) := by decide +kernel
theorem d_M_broken_14 : decode c_M_broken 14 = .ok (.aload_n 0, 1) := by decide +kernel
theorem d_M_broken_15 : decode c_M_broken 15 = .ok (.getfield 129, 3) := by decide +kernel
theorem d_M_broken_18 : decode c_M_broken 18 = .ok (.istore_n 2, 1) := by decide +kernel
theorem d_M_broken_19 : decode c_M_broken 19 = .ok (.aload_n 0, 1) := by decide +kernel
theorem d_M_broken_20 : decode c_M_broken 20 = .ok (.invokevirtual 154, 3) := by decide +kernel
theorem d_M_broken_23 : decode c_M_broken 23 = .ok (.iconst 0, 1) := by decide +kernel
theorem d_M_broken_24 : decode c_M_broken 24 = .ok (.istore_n 3, 1) := by decide +kernel
theorem d_M_broken_25 : decode c_M_broken 25 = .ok (.iload_n 3, 1) := by decide +kernel
theorem d_M_broken_26 : decode c_M_broken 26 = .ok (.bipush 12, 2) := by decide +kernel
theorem d_M_broken_28 : decode c_M_broken 28 = .ok (.if_icmp .ge 43, 3) := by decide +kernel
theorem d_M_broken_31 : decode c_M_broken 31 = .ok (.aload_n 0, 1) := by decide +kernel
theorem d_M_broken_32 : decode c_M_broken 32 = .ok (.iload_n 1, 1) := by decide +kernel
theorem d_M_broken_33 : decode c_M_broken 33 = .ok (.iload_n 3, 1) := by decide +kernel
theorem d_M_broken_34 : decode c_M_broken 34 = .ok (.invokevirtual 111, 3) := by decide +kernel
theorem d_M_broken_37 : decode c_M_broken 37 = .ok (.ifCond .ge 6, 3) := by decide +kernel
theorem d_M_broken_40 : decode c_M_broken 40 = .ok (.goto 25, 3) := by decide +kernel
theorem d_M_broken_43 : decode c_M_broken 43 = .ok (.aload_n 0, 1) := by decide +kernel
theorem d_M_broken_44 : decode c_M_broken 44 = .ok (.iload_n 1, 1) := by decide +kernel
theorem d_M_broken_45 : decode c_M_broken 45 = .ok (.iload_n 3, 1) := by decide +kernel
theorem d_M_broken_46 : decode c_M_broken 46 = .ok (.invokevirtual 157, 3) := by decide +kernel
theorem d_M_broken_49 : decode c_M_broken 49 = .ok (.lstore 4, 2) := by decide +kernel
theorem d_M_broken_51 : decode c_M_broken 51 = .ok (.aload_n 0, 1) := by decide +kernel
theorem d_M_broken_52 : decode c_M_broken 52 = .ok (.iload_n 2, 1) := by decide +kernel
theorem d_M_broken_53 : decode c_M_broken 53 = .ok (.invokevirtual 160, 3) := by decide +kernel
theorem d_M_broken_56 : decode c_M_broken 56 = .ok (.lload 4, 2) := by decide +kernel
theorem d_M_broken_58 : decode c_M_broken 58 = .ok (.lconst 0, 1) := by decide +kernel
theorem d_M_broken_59 : decode c_M_broken 59 = .ok (.lcmp, 1) := by decide +kernel
theorem d_M_broken_60 : decode c_M_broken 60 = .ok (.ifCond .ge 5, 3) := by decide +kernel
theorem d_M_broken_63 : decode c_M_broken 63 = .ok (.iload_n 3, 1) := by decide +kernel
theorem d_M_broken_64 : decode c_M_broken 64 = .ok (.ireturn, 1) := by decide +kernel
theorem d_M_broken_65 : decode c_M_broken 65 = .ok (.iinc 3 1, 3) := by decide +kernel
theorem d_M_broken_68 : decode c_M_broken 68 = .ok (.goto (-43), 3) := by decide +kernel
theorem d_M_broken_71 : decode c_M_broken 71 = .ok (.bipush 12, 2) := by decide +kernel
theorem d_M_broken_73 : decode c_M_broken 73 = .ok (.ireturn, 1) := by decide +kernel
theorem d_M_reach_0 : decode c_M_reach 0 = .ok (.aload_n 0, 1) := by decide +kernel
theorem d_M_reach_1 : decode c_M_reach 1 = .ok (.iload_n 1, 1) := by decide +kernel
theorem d_M_reach_2 : decode c_M_reach 2 = .ok (.iload_n 2, 1) := by decide +kernel
theorem d_M_reach_3 : decode c_M_reach 3 = .ok (.invokevirtual 88, 3) := by decide +kernel
theorem d_M_reach_6 : decode c_M_reach 6 = .ok (.ifCond .eq 5, 3) := by decide +kernel
theorem d_M_reach_9 : decode c_M_reach 9 = .ok (.iconst (-1), 1) := by decide +kernel
theorem d_M_reach_10 : decode c_M_reach 10 = .ok (.ireturn, 1) := by decide +kernel
theorem d_M_reach_11 : decode c_M_reach 11 = .ok (.lconst 1, 1) := by decide +kernel
theorem d_M_reach_12 : decode c_M_reach 12 = .ok (.bipush 12, 2) := by decide +kernel
theorem d_M_reach_14 : decode c_M_reach 14 = .ok (.iload_n 1, 1) := by decide +kernel
theorem d_M_reach_15 : decode c_M_reach 15 = .ok (.imul, 1) := by decide +kernel
theorem d_M_reach_16 : decode c_M_reach 16 = .ok (.iload_n 2, 1) := by decide +kernel
theorem d_M_reach_17 : decode c_M_reach 17 = .ok (.iadd, 1) := by decide +kernel
theorem d_M_reach_18 : decode c_M_reach 18 = .ok (.lshl, 1) := by decide +kernel
theorem d_M_reach_19 : decode c_M_reach 19 = .ok (.lstore_n 3, 1) := by decide +kernel
theorem d_M_reach_20 : decode c_M_reach 20 = .ok (.iconst 0, 1) := by decide +kernel
theorem d_M_reach_21 : decode c_M_reach 21 = .ok (.istore 5, 2) := by decide +kernel
theorem d_M_reach_23 : decode c_M_reach 23 = .ok (.iload 5, 2) := by decide +kernel
theorem d_M_reach_25 : decode c_M_reach 25 = .ok (.sipush 1296, 3) := by decide +kernel
theorem d_M_reach_28 : decode c_M_reach 28 = .ok (.if_icmp .ge 144, 3) := by decide +kernel
theorem d_M_reach_31 : decode c_M_reach 31 = .ok (.iload 5, 2) := by decide +kernel
theorem d_M_reach_33 : decode c_M_reach 33 = .ok (.bipush 36, 2) := by decide +kernel
theorem d_M_reach_35 : decode c_M_reach 35 = .ok (.irem, 1) := by decide +kernel
theorem d_M_reach_36 : decode c_M_reach 36 = .ok (.istore 6, 2) := by decide +kernel
theorem d_M_reach_38 : decode c_M_reach 38 = .ok (.lload_n 3, 1) := by decide +kernel
theorem d_M_reach_39 : decode c_M_reach 39 = .ok (.lconst 1, 1) := by decide +kernel
theorem d_M_reach_40 : decode c_M_reach 40 = .ok (.iload 6, 2) := by decide +kernel
theorem d_M_reach_42 : decode c_M_reach 42 = .ok (.lshl, 1) := by decide +kernel
theorem d_M_reach_43 : decode c_M_reach 43 = .ok (.land, 1) := by decide +kernel
theorem d_M_reach_44 : decode c_M_reach 44 = .ok (.lconst 0, 1) := by decide +kernel
theorem d_M_reach_45 : decode c_M_reach 45 = .ok (.lcmp, 1) := by decide +kernel
theorem d_M_reach_46 : decode c_M_reach 46 = .ok (.ifCond .ne 6, 3) := by decide +kernel
theorem d_M_reach_49 : decode c_M_reach 49 = .ok (.goto 117, 3) := by decide +kernel
theorem d_M_reach_52 : decode c_M_reach 52 = .ok (.aload_n 0, 1) := by decide +kernel
theorem d_M_reach_53 : decode c_M_reach 53 = .ok (.iload 6, 2) := by decide +kernel
theorem d_M_reach_55 : decode c_M_reach 55 = .ok (.bipush 12, 2) := by decide +kernel
theorem d_M_reach_57 : decode c_M_reach 57 = .ok (.idiv, 1) := by decide +kernel
theorem d_M_reach_58 : decode c_M_reach 58 = .ok (.iload 6, 2) := by decide +kernel
theorem d_M_reach_60 : decode c_M_reach 60 = .ok (.bipush 12, 2) := by decide +kernel
theorem d_M_reach_62 : decode c_M_reach 62 = .ok (.irem, 1) := by decide +kernel
theorem d_M_reach_63 : decode c_M_reach 63 = .ok (.invokevirtual 111, 3) := by decide +kernel
theorem d_M_reach_66 : decode c_M_reach 66 = .ok (.istore 7, 2) := by decide +kernel
theorem d_M_reach_68 : decode c_M_reach 68 = .ok (.iload 7, 2) := by decide +kernel
theorem d_M_reach_70 : decode c_M_reach 70 = .ok (.ifCond .ge 6, 3) := by decide +kernel
theorem d_M_reach_73 : decode c_M_reach 73 = .ok (.goto 93, 3) := by decide +kernel
theorem d_M_reach_76 : decode c_M_reach 76 = .ok (.aload_n 0, 1) := by decide +kernel
theorem d_M_reach_77 : decode c_M_reach 77 = .ok (.getfield 24, 3) := by decide +kernel
theorem d_M_reach_80 : decode c_M_reach 80 = .ok (.iload 7, 2) := by decide +kernel
theorem d_M_reach_82 : decode c_M_reach 82 = .ok (.iaload, 1) := by decide +kernel
theorem d_M_reach_83 : decode c_M_reach 83 = .ok (.iconst 2, 1) := by decide +kernel
theorem d_M_reach_84 : decode c_M_reach 84 = .ok (.if_icmp .ne 24, 3) := by decide +kernel
theorem d_M_reach_87 : decode c_M_reach 87 = .ok (.lload_n 3, 1) := by decide +kernel
theorem d_M_reach_88 : decode c_M_reach 88 = .ok (.lconst 1, 1) := by decide +kernel
theorem d_M_reach_89 : decode c_M_reach 89 = .ok (.iload 7, 2) := by decide +kernel
theorem d_M_reach_91 : decode c_M_reach 91 = .ok (.bipush 12, 2) := by decide +kernel
theorem d_M_reach_93 : decode c_M_reach 93 = .ok (.idiv, 1) := by decide +kernel
theorem d_M_reach_94 : decode c_M_reach 94 = .ok (.bipush 12, 2) := by decide +kernel
theorem d_M_reach_96 : decode c_M_reach 96 = .ok (.imul, 1) := by decide +kernel
theorem d_M_reach_97 : decode c_M_reach 97 = .ok (.aload_n 0, 1) := by decide +kernel
theorem d_M_reach_98 : decode c_M_reach 98 = .ok (.getfield 27, 3) := by decide +kernel
theorem d_M_reach_101 : decode c_M_reach 101 = .ok (.iload 7, 2) := by decide +kernel
theorem d_M_reach_103 : decode c_M_reach 103 = .ok (.iaload, 1) := by decide +kernel
theorem d_M_reach_104 : decode c_M_reach 104 = .ok (.iadd, 1) := by decide +kernel
theorem d_M_reach_105 : decode c_M_reach 105 = .ok (.lshl, 1) := by decide +kernel
theorem d_M_reach_106 : decode c_M_reach 106 = .ok (.lor, 1) := by decide +kernel
theorem d_M_reach_107 : decode c_M_reach 107 = .ok (.lstore_n 3, 1) := by decide +kernel
theorem d_M_reach_108 : decode c_M_reach 108 = .ok (.iconst 0, 1) := by decide +kernel
theorem d_M_reach_109 : decode c_M_reach 109 = .ok (.istore 8, 2) := by decide +kernel
theorem d_M_reach_111 : decode c_M_reach 111 = .ok (.iload 8, 2) := by decide +kernel
theorem d_M_reach_113 : decode c_M_reach 113 = .ok (.aload_n 0, 1) := by decide +kernel
theorem d_M_reach_114 : decode c_M_reach 114 = .ok (.getfield 33, 3) := by decide +kernel
theorem d_M_reach_117 : decode c_M_reach 117 = .ok (.iload 7, 2) := by decide +kernel
theorem d_M_reach_119 : decode c_M_reach 119 = .ok (.iaload, 1) := by decide +kernel
theorem d_M_reach_120 : decode c_M_reach 120 = .ok (.if_icmp .ge 46, 3) := by decide +kernel
theorem d_M_reach_123 : decode c_M_reach 123 = .ok (.aload_n 0, 1) := by decide +kernel
theorem d_M_reach_124 : decode c_M_reach 124 = .ok (.getfield 24, 3) := by decide +kernel
theorem d_M_reach_127 : decode c_M_reach 127 = .ok (.iload 7, 2) := by decide +kernel
theorem d_M_reach_129 : decode c_M_reach 129 = .ok (.iaload, 1) := by decide +kernel
theorem d_M_reach_130 : decode c_M_reach 130 = .ok (.iconst 3, 1) := by decide +kernel
theorem d_M_reach_131 : decode c_M_reach 131 = .ok (.if_icmp .ne 35, 3) := by decide +kernel
theorem d_M_reach_134 : decode c_M_reach 134 = .ok (.lload_n 3, 1) := by decide +kernel
theorem d_M_reach_135 : decode c_M_reach 135 = .ok (.lconst 1, 1) := by decide +kernel
theorem d_M_reach_136 : decode c_M_reach 136 = .ok (.iload 7, 2) := by decide +kernel
theorem d_M_reach_138 : decode c_M_reach 138 = .ok (.bipush 12, 2) := by decide +kernel
theorem d_M_reach_140 : decode c_M_reach 140 = .ok (.idiv, 1) := by decide +kernel
theorem d_M_reach_141 : decode c_M_reach 141 = .ok (.bipush 12, 2) := by decide +kernel
theorem d_M_reach_143 : decode c_M_reach 143 = .ok (.imul, 1) := by decide +kernel
theorem d_M_reach_144 : decode c_M_reach 144 = .ok (.aload_n 0, 1) := by decide +kernel
theorem d_M_reach_145 : decode c_M_reach 145 = .ok (.getfield 36, 3) := by decide +kernel
theorem d_M_reach_148 : decode c_M_reach 148 = .ok (.iconst 4, 1) := by decide +kernel
theorem d_M_reach_149 : decode c_M_reach 149 = .ok (.iload 7, 2) := by decide +kernel
theorem d_M_reach_151 : decode c_M_reach 151 = .ok (.imul, 1) := by decide +kernel
theorem d_M_reach_152 : decode c_M_reach 152 = .ok (.iload 8, 2) := by decide +kernel
theorem d_M_reach_154 : decode c_M_reach 154 = .ok (.iadd, 1) := by decide +kernel
theorem d_M_reach_155 : decode c_M_reach 155 = .ok (.iaload, 1) := by decide +kernel
theorem d_M_reach_156 : decode c_M_reach 156 = .ok (.iadd, 1) := by decide +kernel
theorem d_M_reach_157 : decode c_M_reach 157 = .ok (.lshl, 1) := by decide +kernel
theorem d_M_reach_158 : decode c_M_reach 158 = .ok (.lor, 1) := by decide +kernel
theorem d_M_reach_159 : decode c_M_reach 159 = .ok (.lstore_n 3, 1) := by decide +kernel
theorem d_M_reach_160 : decode c_M_reach 160 = .ok (.iinc 8 1, 3) := by decide +kernel
theorem d_M_reach_163 : decode c_M_reach 163 = .ok (.goto (-52), 3) := by decide +kernel
theorem d_M_reach_166 : decode c_M_reach 166 = .ok (.iinc 5 1, 3) := by decide +kernel
theorem d_M_reach_169 : decode c_M_reach 169 = .ok (.goto (-146), 3) := by decide +kernel
theorem d_M_reach_172 : decode c_M_reach 172 = .ok (.iconst 0, 1) := by decide +kernel
theorem d_M_reach_173 : decode c_M_reach 173 = .ok (.istore 5, 2) := by decide +kernel
theorem d_M_reach_175 : decode c_M_reach 175 = .ok (.iconst 0, 1) := by decide +kernel
theorem d_M_reach_176 : decode c_M_reach 176 = .ok (.istore 6, 2) := by decide +kernel
theorem d_M_reach_178 : decode c_M_reach 178 = .ok (.iload 6, 2) := by decide +kernel
theorem d_M_reach_180 : decode c_M_reach 180 = .ok (.bipush 36, 2) := by decide +kernel
theorem d_M_reach_182 : decode c_M_reach 182 = .ok (.if_icmp .ge 32, 3) := by decide +kernel
theorem d_M_reach_185 : decode c_M_reach 185 = .ok (.lload_n 3, 1) := by decide +kernel
theorem d_M_reach_186 : decode c_M_reach 186 = .ok (.lconst 1, 1) := by decide +kernel
theorem d_M_reach_187 : decode c_M_reach 187 = .ok (.iload 6, 2) := by decide +kernel
theorem d_M_reach_189 : decode c_M_reach 189 = .ok (.lshl, 1) := by decide +kernel
theorem d_M_reach_190 : decode c_M_reach 190 = .ok (.land, 1) := by decide +kernel
theorem d_M_reach_191 : decode c_M_reach 191 = .ok (.lconst 0, 1) := by decide +kernel
theorem d_M_reach_192 : decode c_M_reach 192 = .ok (.lcmp, 1) := by decide +kernel
theorem d_M_reach_193 : decode c_M_reach 193 = .ok (.ifCond .eq 15, 3) := by decide +kernel
theorem d_M_reach_196 : decode c_M_reach 196 = .ok (.iload 5, 2) := by decide +kernel
theorem d_M_reach_198 : decode c_M_reach 198 = .ok (.iconst 1, 1) := by decide +kernel
theorem d_M_reach_199 : decode c_M_reach 199 = .ok (.iload 6, 2) := by decide +kernel
theorem d_M_reach_201 : decode c_M_reach 201 = .ok (.bipush 12, 2) := by decide +kernel
theorem d_M_reach_203 : decode c_M_reach 203 = .ok (.irem, 1) := by decide +kernel
theorem d_M_reach_204 : decode c_M_reach 204 = .ok (.ishl, 1) := by decide +kernel
theorem d_M_reach_205 : decode c_M_reach 205 = .ok (.ior, 1) := by decide +kernel
theorem d_M_reach_206 : decode c_M_reach 206 = .ok (.istore 5, 2) := by decide +kernel
theorem d_M_reach_208 : decode c_M_reach 208 = .ok (.iinc 6 1, 3) := by decide +kernel
theorem d_M_reach_211 : decode c_M_reach 211 = .ok (.goto (-33), 3) := by decide +kernel
theorem d_M_reach_214 : decode c_M_reach 214 = .ok (.iload 5, 2) := by decide +kernel
theorem d_M_reach_216 : decode c_M_reach 216 = .ok (.ireturn, 1) := by decide +kernel
theorem d_M_home_0 : decode c_M_home 0 = .ok (.aload_n 0, 1) := by decide +kernel
theorem d_M_home_1 : decode c_M_home 1 = .ok (.iload_n 1, 1) := by decide +kernel
theorem d_M_home_2 : decode c_M_home 2 = .ok (.iload_n 2, 1) := by decide +kernel
theorem d_M_home_3 : decode c_M_home 3 = .ok (.invokevirtual 88, 3) := by decide +kernel
theorem d_M_home_6 : decode c_M_home 6 = .ok (.ifCond .eq 5, 3) := by decide +kernel
theorem d_M_home_9 : decode c_M_home 9 = .ok (.iconst (-1), 1) := by decide +kernel
theorem d_M_home_10 : decode c_M_home 10 = .ok (.ireturn, 1) := by decide +kernel
theorem d_M_home_11 : decode c_M_home 11 = .ok (.aload_n 0, 1) := by decide +kernel
theorem d_M_home_12 : decode c_M_home 12 = .ok (.iload_n 1, 1) := by decide +kernel
theorem d_M_home_13 : decode c_M_home 13 = .ok (.iload_n 2, 1) := by decide +kernel
theorem d_M_home_14 : decode c_M_home 14 = .ok (.invokevirtual 111, 3) := by decide +kernel
theorem d_M_home_17 : decode c_M_home 17 = .ok (.istore_n 3, 1) := by decide +kernel
theorem d_M_home_18 : decode c_M_home 18 = .ok (.iload_n 3, 1) := by decide +kernel
theorem d_M_home_19 : decode c_M_home 19 = .ok (.ifCond .ge 7, 3) := by decide +kernel
theorem d_M_home_22 : decode c_M_home 22 = .ok (.iconst 3, 1) := by decide +kernel
theorem d_M_home_23 : decode c_M_home 23 = .ok (.goto 7, 3) := by decide +kernel
theorem d_M_home_26 : decode c_M_home 26 = .ok (.iload_n 3, 1) := by decide +kernel
theorem d_M_home_27 : decode c_M_home 27 = .ok (.bipush 12, 2) := by decide +kernel
theorem d_M_home_29 : decode c_M_home 29 = .ok (.idiv, 1) := by decide +kernel
theorem d_M_home_30 : decode c_M_home 30 = .ok (.ireturn, 1) := by decide +kernel
theorem d_M_count_0 : decode c_M_count 0 = .ok (.iload_n 1, 1) := by decide +kernel
theorem d_M_count_1 : decode c_M_count 1 = .ok (.tableswitch 86 0 5 #[39, 44, 49, 57, 65, 73], 39) := by decide +kernel
theorem d_M_count_40 : decode c_M_count 40 = .ok (.aload_n 0, 1) := by decide +kernel
theorem d_M_count_41 : decode c_M_count 41 = .ok (.getfield 13, 3) := by decide +kernel
theorem d_M_count_44 : decode c_M_count 44 = .ok (.ireturn, 1) := by decide +kernel
theorem d_M_count_45 : decode c_M_count 45 = .ok (.aload_n 0, 1) := by decide +kernel
theorem d_M_count_46 : decode c_M_count 46 = .ok (.getfield 129, 3) := by decide +kernel
theorem d_M_count_49 : decode c_M_count 49 = .ok (.ireturn, 1) := by decide +kernel
theorem d_M_count_50 : decode c_M_count 50 = .ok (.aload_n 0, 1) := by decide +kernel
theorem d_M_count_51 : decode c_M_count 51 = .ok (.getfield 24, 3) := by decide +kernel
theorem d_M_count_54 : decode c_M_count 54 = .ok (.invokestatic 104, 3) := by decide +kernel
theorem d_M_count_57 : decode c_M_count 57 = .ok (.ireturn, 1) := by decide +kernel
theorem d_M_count_58 : decode c_M_count 58 = .ok (.aload_n 0, 1) := by decide +kernel
theorem d_M_count_59 : decode c_M_count 59 = .ok (.getfield 42, 3) := by decide +kernel
theorem d_M_count_62 : decode c_M_count 62 = .ok (.invokestatic 104, 3) := by decide +kernel
theorem d_M_count_65 : decode c_M_count 65 = .ok (.ireturn, 1) := by decide +kernel
theorem d_M_count_66 : decode c_M_count 66 = .ok (.aload_n 0, 1) := by decide +kernel
theorem d_M_count_67 : decode c_M_count 67 = .ok (.getfield 45, 3) := by decide +kernel
theorem d_M_count_70 : decode c_M_count 70 = .ok (.invokestatic 104, 3) := by decide +kernel
theorem d_M_count_73 : decode c_M_count 73 = .ok (.ireturn, 1) := by decide +kernel
theorem d_M_count_74 : decode c_M_count 74 = .ok (.aload_n 0, 1) := by decide +kernel
theorem d_M_count_75 : decode c_M_count 75 = .ok (.getfield 100, 3) := by decide +kernel
theorem d_M_count_78 : decode c_M_count 78 = .ok (.ifCond .eq 7, 3) := by decide +kernel
theorem d_M_count_81 : decode c_M_count 81 = .ok (.iconst 1, 1) := by decide +kernel
theorem d_M_count_82 : decode c_M_count 82 = .ok (.goto 4, 3) := by decide +kernel
theorem d_M_count_85 : decode c_M_count 85 = .ok (.iconst 0, 1) := by decide +kernel
theorem d_M_count_86 : decode c_M_count 86 = .ok (.ireturn, 1) := by decide +kernel
theorem d_M_count_87 : decode c_M_count 87 = .ok (.iconst (-1), 1) := by decide +kernel
theorem d_M_count_88 : decode c_M_count 88 = .ok (.ireturn, 1) := by decide +kernel
end
section
theorem d_X_init_0 : decode c_X_init 0 = .ok (.aload_n 0, 1) := by decide +kernel
theorem d_X_init_1 : decode c_X_init 1 = .ok (.invokespecial 3, 3) := by decide +kernel
theorem d_X_init_4 : decode c_X_init 4 = .ok (.aload_n 0, 1) := by decide +kernel
theorem d_X_init_5 : decode c_X_init 5 = .ok (.iconst 3, 1) := by decide +kernel
theorem d_X_init_6 : decode c_X_init 6 = .ok (.newarray .int, 2) := by decide +kernel
theorem d_X_init_8 : decode c_X_init 8 = .ok (.putfield 9, 3) := by decide +kernel
theorem d_X_init_11 : decode c_X_init 11 = .ok (.aload_n 0, 1) := by decide +kernel
theorem d_X_init_12 : decode c_X_init 12 = .ok (.getfield 9, 3) := by decide +kernel
theorem d_X_init_15 : decode c_X_init 15 = .ok (.iconst 0, 1) := by decide +kernel
theorem d_X_init_16 : decode c_X_init 16 = .ok (.iconst (-1), 1) := by decide +kernel
theorem d_X_init_17 : decode c_X_init 17 = .ok (.iastore, 1) := by decide +kernel
theorem d_X_init_18 : decode c_X_init 18 = .ok (.aload_n 0, 1) := by decide +kernel
theorem d_X_init_19 : decode c_X_init 19 = .ok (.iconst 1, 1) := by decide +kernel
theorem d_X_init_20 : decode c_X_init 20 = .ok (.putfield 13, 3) := by decide +kernel
theorem d_X_init_23 : decode c_X_init 23 = .ok (.aload_n 0, 1) := by decide +kernel
theorem d_X_init_24 : decode c_X_init 24 = .ok (.bipush 36, 2) := by decide +kernel
theorem d_X_init_26 : decode c_X_init 26 = .ok (.anewarray 17, 3) := by decide +kernel
theorem d_X_init_29 : decode c_X_init 29 = .ok (.putfield 19, 3) := by decide +kernel
theorem d_X_init_32 : decode c_X_init 32 = .ok (.aload_n 0, 1) := by decide +kernel
theorem d_X_init_33 : decode c_X_init 33 = .ok (.bipush 100, 2) := by decide +kernel
theorem d_X_init_35 : decode c_X_init 35 = .ok (.anewarray 17, 3) := by decide +kernel
theorem d_X_init_38 : decode c_X_init 38 = .ok (.putfield 23, 3) := by decide +kernel
theorem d_X_init_41 : decode c_X_init 41 = .ok (.aload_n 0, 1) := by decide +kernel
theorem d_X_init_42 : decode c_X_init 42 = .ok (.sipush 400, 3) := by decide +kernel
theorem d_X_init_45 : decode c_X_init 45 = .ok (.newarray .long, 2) := by decide +kernel
theorem d_X_init_47 : decode c_X_init 47 = .ok (.putfield 26, 3) := by decide +kernel
theorem d_X_init_50 : decode c_X_init 50 = .ok (.aload_n 0, 1) := by decide +kernel
theorem d_X_init_51 : decode c_X_init 51 = .ok (.sipush 144, 3) := by decide +kernel
theorem d_X_init_54 : decode c_X_init 54 = .ok (.newarray .long, 2) := by decide +kernel
theorem d_X_init_56 : decode c_X_init 56 = .ok (.putfield 30, 3) := by decide +kernel
theorem d_X_init_59 : decode c_X_init 59 = .ok (.aload_n 0, 1) := by decide +kernel
theorem d_X_init_60 : decode c_X_init 60 = .ok (.new 33, 3) := by decide +kernel
theorem d_X_init_63 : decode c_X_init 63 = .ok (.dup, 1) := by decide +kernel
theorem d_X_init_64 : decode c_X_init 64 = .ok (.invokespecial 35, 3) := by decide +kernel
theorem d_X_init_67 : decode c_X_init 67 = .ok (.putfield 36, 3) := by decide +kernel
theorem d_X_init_70 : decode c_X_init 70 = .ok (.return_, 1) := by decide +kernel
theorem d_X_child_0 : decode c_X_child 0 = .ok (.aload_n 0, 1) := by decide +kernel
theorem d_X_child_1 : decode c_X_child 1 = .ok (.iload_n 1, 1) := by decide +kernel
theorem d_X_child_2 : decode c_X_child 2 = .ok (.invokevirtual 40, 3) := by decide +kernel
theorem d_X_child_5 : decode c_X_child 5 = .ok (.ifCond .eq 11, 3) := by decide +kernel
theorem d_X_child_8 : decode c_X_child 8 = .ok (.aload_n 0, 1) := by decide +kernel
theorem d_X_child_9 : decode c_X_child 9 = .ok (.getfield 13, 3) := by decide +kernel
theorem d_X_child_12 : decode c_X_child 12 = .ok (.iconst 3, 1) := by decide +kernel
theorem d_X_child_13 : decode c_X_child 13 = .ok (.if_icmp .lt 5, 3) := by decide +kernel
theorem d_X_child_16 : decode c_X_child 16 = .ok (.iconst (-1), 1) := by decide +kernel
theorem d_X_child_17 : decode c_X_child 17 = .ok (.ireturn, 1) := by decide +kernel
theorem d_X_child_18 : decode c_X_child 18 = .ok (.aload_n 0, 1) := by decide +kernel
theorem d_X_child_19 : decode c_X_child 19 = .ok (.getfield 13, 3) := by decide +kernel
theorem d_X_child_22 : decode c_X_child 22 = .ok (.istore_n 2, 1) := by decide +kernel
theorem d_X_child_23 : decode c_X_child 23 = .ok (.aload_n 0, 1) := by decide +kernel
theorem d_X_child_24 : decode c_X_child 24 = .ok (.getfield 9, 3) := by decide +kernel
theorem d_X_child_27 : decode c_X_child 27 = .ok (.iload_n 2, 1) := by decide +kernel
theorem d_X_child_28 : decode c_X_child 28 = .ok (.iload_n 1, 1) := by decide +kernel
theorem d_X_child_29 : decode c_X_child 29 = .ok (.iastore, 1) := by decide +kernel
theorem d_X_child_30 : decode c_X_child 30 = .ok (.aload_n 0, 1) := by decide +kernel
theorem d_X_child_31 : decode c_X_child 31 = .ok (.dup, 1) := by decide +kernel
theorem d_X_child_32 : decode c_X_child 32 = .ok (.getfield 13, 3) := by decide +kernel
theorem d_X_child_35 : decode c_X_child 35 = .ok (.iconst 1, 1) := by decide +kernel
theorem d_X_child_36 : decode c_X_child 36 = .ok (.iadd, 1) := by decide +kernel
theorem d_X_child_37 : decode c_X_child 37 = .ok (.putfield 13, 3) := by decide +kernel
theorem d_X_child_40 : decode c_X_child 40 = .ok (.iload_n 2, 1) := by decide +kernel
theorem d_X_child_41 : decode c_X_child 41 = .ok (.ireturn, 1) := by decide +kernel
theorem d_X_need_0 : decode c_X_need 0 = .ok (.iload_n 1, 1) := by decide +kernel
theorem d_X_need_1 : decode c_X_need 1 = .ok (.invokestatic 44, 3) := by decide +kernel
theorem d_X_need_4 : decode c_X_need 4 = .ok (.ifCond .eq 14, 3) := by decide +kernel
theorem d_X_need_7 : decode c_X_need 7 = .ok (.aload_n 0, 1) := by decide +kernel
theorem d_X_need_8 : decode c_X_need 8 = .ok (.getfield 36, 3) := by decide +kernel
theorem d_X_need_11 : decode c_X_need 11 = .ok (.getfield 47, 3) := by decide +kernel
theorem d_X_need_14 : decode c_X_need 14 = .ok (.iconst 4, 1) := by decide +kernel
theorem d_X_need_15 : decode c_X_need 15 = .ok (.if_icmp .lt 5, 3) := by decide +kernel
theorem d_X_need_18 : decode c_X_need 18 = .ok (.iconst (-1), 1) := by decide +kernel
theorem d_X_need_19 : decode c_X_need 19 = .ok (.ireturn, 1) := by decide +kernel
theorem d_X_need_20 : decode c_X_need 20 = .ok (.aload_n 0, 1) := by decide +kernel
theorem d_X_need_21 : decode c_X_need 21 = .ok (.getfield 36, 3) := by decide +kernel
theorem d_X_need_24 : decode c_X_need 24 = .ok (.iload_n 1, 1) := by decide +kernel
theorem d_X_need_25 : decode c_X_need 25 = .ok (.iload_n 2, 1) := by decide +kernel
theorem d_X_need_26 : decode c_X_need 26 = .ok (.invokevirtual 50, 3) := by decide +kernel
theorem d_X_need_29 : decode c_X_need 29 = .ok (.aload_n 0, 1) := by decide +kernel
theorem d_X_need_30 : decode c_X_need 30 = .ok (.getfield 36, 3) := by decide +kernel
theorem d_X_need_33 : decode c_X_need 33 = .ok (.getfield 47, 3) := by decide +kernel
theorem d_X_need_36 : decode c_X_need 36 = .ok (.ireturn, 1) := by decide +kernel
theorem d_X_drop_0 : decode c_X_drop 0 = .ok (.aload_n 0, 1) := by decide +kernel
theorem d_X_drop_1 : decode c_X_drop 1 = .ok (.getfield 36, 3) := by decide +kernel
theorem d_X_drop_4 : decode c_X_drop 4 = .ok (.getfield 47, 3) := by decide +kernel
theorem d_X_drop_7 : decode c_X_drop 7 = .ok (.istore_n 1, 1) := by decide +kernel
theorem d_X_drop_8 : decode c_X_drop 8 = .ok (.aload_n 0, 1) := by decide +kernel
theorem d_X_drop_9 : decode c_X_drop 9 = .ok (.getfield 36, 3) := by decide +kernel
theorem d_X_drop_12 : decode c_X_drop 12 = .ok (.iconst 0, 1) := by decide +kernel
theorem d_X_drop_13 : decode c_X_drop 13 = .ok (.putfield 47, 3) := by decide +kernel
theorem d_X_drop_16 : decode c_X_drop 16 = .ok (.iload_n 1, 1) := by decide +kernel
theorem d_X_drop_17 : decode c_X_drop 17 = .ok (.ireturn, 1) := by decide +kernel
theorem d_X_bindConstant_0 : decode c_X_bindConstant 0 = .ok (.aload_n 0, 1) := by decide +kernel
theorem d_X_bindConstant_1 : decode c_X_bindConstant 1 = .ok (.iload_n 1, 1) := by decide +kernel
theorem d_X_bindConstant_2 : decode c_X_bindConstant 2 = .ok (.iload_n 2, 1) := by decide +kernel
theorem d_X_bindConstant_3 : decode c_X_bindConstant 3 = .ok (.invokevirtual 54, 3) := by decide +kernel
theorem d_X_bindConstant_6 : decode c_X_bindConstant 6 = .ok (.ifCond .ne 5, 3) := by decide +kernel
theorem d_X_bindConstant_9 : decode c_X_bindConstant 9 = .ok (.iconst (-1), 1) := by decide +kernel
theorem d_X_bindConstant_10 : decode c_X_bindConstant 10 = .ok (.ireturn, 1) := by decide +kernel
theorem d_X_bindConstant_11 : decode c_X_bindConstant 11 = .ok (.aload_n 0, 1) := by decide +kernel
theorem d_X_bindConstant_12 : decode c_X_bindConstant 12 = .ok (.getfield 19, 3) := by decide +kernel
theorem d_X_bindConstant_15 : decode c_X_bindConstant 15 = .ok (.iload_n 1, 1) := by decide +kernel
theorem d_X_bindConstant_16 : decode c_X_bindConstant 16 = .ok (.iload_n 2, 1) := by decide +kernel
theorem d_X_bindConstant_17 : decode c_X_bindConstant 17 = .ok (.invokestatic 58, 3) := by decide +kernel
theorem d_X_bindConstant_20 : decode c_X_bindConstant 20 = .ok (.new 17, 3) := by decide +kernel
theorem d_X_bindConstant_23 : decode c_X_bindConstant 23 = .ok (.dup, 1) := by decide +kernel
theorem d_X_bindConstant_24 : decode c_X_bindConstant 24 = .ok (.getstatic 62, 3) := by decide +kernel
theorem d_X_bindConstant_27 : decode c_X_bindConstant 27 = .ok (.iload_n 1, 1) := by decide +kernel
theorem d_X_bindConstant_28 : decode c_X_bindConstant 28 = .ok (.iload_n 2, 1) := by decide +kernel
theorem d_X_bindConstant_29 : decode c_X_bindConstant 29 = .ok (.iload_n 3, 1) := by decide +kernel
theorem d_X_bindConstant_30 : decode c_X_bindConstant 30 = .ok (.iconst 0, 1) := by decide +kernel
theorem d_X_bindConstant_31 : decode c_X_bindConstant 31 = .ok (.new 33, 3) := by decide +kernel
theorem d_X_bindConstant_34 : decode c_X_bindConstant 34 = .ok (.dup, 1) := by decide +kernel
theorem d_X_bindConstant_35 : decode c_X_bindConstant 35 = .ok (.invokespecial 35, 3) := by decide +kernel
theorem d_X_bindConstant_38 : decode c_X_bindConstant 38 = .ok (.invokespecial 68, 3) := by decide +kernel
theorem d_X_bindConstant_41 : decode c_X_bindConstant 41 = .ok (.aastore, 1) := by decide +kernel
theorem d_X_bindConstant_42 : decode c_X_bindConstant 42 = .ok (.iconst 1, 1) := by decide +kernel
theorem d_X_bindConstant_43 : decode c_X_bindConstant 43 = .ok (.ireturn, 1) := by decide +kernel
theorem d_X_bindLink_0 : decode c_X_bindLink 0 = .ok (.iload_n 3, 1) := by decide +kernel
theorem d_X_bindLink_1 : decode c_X_bindLink 1 = .ok (.invokestatic 44, 3) := by decide +kernel
theorem d_X_bindLink_4 : decode c_X_bindLink 4 = .ok (.ifCond .eq 12, 3) := by decide +kernel
theorem d_X_bindLink_7 : decode c_X_bindLink 7 = .ok (.aload_n 0, 1) := by decide +kernel
theorem d_X_bindLink_8 : decode c_X_bindLink 8 = .ok (.iload_n 1, 1) := by decide +kernel
theorem d_X_bindLink_9 : decode c_X_bindLink 9 = .ok (.iload_n 2, 1) := by decide +kernel
theorem d_X_bindLink_10 : decode c_X_bindLink 10 = .ok (.invokevirtual 54, 3) := by decide +kernel
theorem d_X_bindLink_13 : decode c_X_bindLink 13 = .ok (.ifCond .ne 5, 3) := by decide +kernel
theorem d_X_bindLink_16 : decode c_X_bindLink 16 = .ok (.iconst (-1), 1) := by decide +kernel
theorem d_X_bindLink_17 : decode c_X_bindLink 17 = .ok (.ireturn, 1) := by decide +kernel
theorem d_X_bindLink_18 : decode c_X_bindLink 18 = .ok (.new 33, 3) := by decide +kernel
theorem d_X_bindLink_21 : decode c_X_bindLink 21 = .ok (.dup, 1) := by decide +kernel
theorem d_X_bindLink_22 : decode c_X_bindLink 22 = .ok (.invokespecial 35, 3) := by decide +kernel
theorem d_X_bindLink_25 : decode c_X_bindLink 25 = .ok (.astore 4, 2) := by decide +kernel
theorem d_X_bindLink_27 : decode c_X_bindLink 27 = .ok (.aload 4, 2) := by decide +kernel
theorem d_X_bindLink_29 : decode c_X_bindLink 29 = .ok (.iload_n 3, 1) := by decide +kernel
theorem d_X_bindLink_30 : decode c_X_bindLink 30 = .ok (.iconst 0, 1) := by decide +kernel
theorem d_X_bindLink_31 : decode c_X_bindLink 31 = .ok (.invokevirtual 50, 3) := by decide +kernel
theorem d_X_bindLink_34 : decode c_X_bindLink 34 = .ok (.aload_n 0, 1) := by decide +kernel
theorem d_X_bindLink_35 : decode c_X_bindLink 35 = .ok (.getfield 19, 3) := by decide +kernel
theorem d_X_bindLink_38 : decode c_X_bindLink 38 = .ok (.iload_n 1, 1) := by decide +kernel
theorem d_X_bindLink_39 : decode c_X_bindLink 39 = .ok (.iload_n 2, 1) := by decide +kernel
theorem d_X_bindLink_40 : decode c_X_bindLink 40 = .ok (.invokestatic 58, 3) := by decide +kernel
theorem d_X_bindLink_43 : decode c_X_bindLink 43 = .ok (.new 17, 3) := by decide +kernel
theorem d_X_bindLink_46 : decode c_X_bindLink 46 = .ok (.dup, 1) := by decide +kernel
theorem d_X_bindLink_47 : decode c_X_bindLink 47 = .ok (.getstatic 71, 3) := by decide +kernel
theorem d_X_bindLink_50 : decode c_X_bindLink 50 = .ok (.iload_n 1, 1) := by decide +kernel
theorem d_X_bindLink_51 : decode c_X_bindLink 51 = .ok (.iload_n 2, 1) := by decide +kernel
theorem d_X_bindLink_52 : decode c_X_bindLink 52 = .ok (.iconst 0, 1) := by decide +kernel
theorem d_X_bindLink_53 : decode c_X_bindLink 53 = .ok (.iconst 0, 1) := by decide +kernel
theorem d_X_bindLink_54 : decode c_X_bindLink 54 = .ok (.aload 4, 2) := by decide +kernel
theorem d_X_bindLink_56 : decode c_X_bindLink 56 = .ok (.invokespecial 68, 3) := by decide +kernel
theorem d_X_bindLink_59 : decode c_X_bindLink 59 = .ok (.aastore, 1) := by decide +kernel
theorem d_X_bindLink_60 : decode c_X_bindLink 60 = .ok (.iconst 1, 1) := by decide +kernel
theorem d_X_bindLink_61 : decode c_X_bindLink 61 = .ok (.ireturn, 1) := by decide +kernel
theorem d_X_bindClass_0 : decode c_X_bindClass 0 = .ok (.iload_n 3, 1) := by decide +kernel
theorem d_X_bindClass_1 : decode c_X_bindClass 1 = .ok (.ifCond .lt 17, 3) := by decide +kernel
theorem d_X_bindClass_4 : decode c_X_bindClass 4 = .ok (.iload_n 3, 1) := by decide +kernel
theorem d_X_bindClass_5 : decode c_X_bindClass 5 = .ok (.iconst 2, 1) := by decide +kernel
theorem d_X_bindClass_6 : decode c_X_bindClass 6 = .ok (.if_icmp .gt 12, 3) := by decide +kernel
theorem d_X_bindClass_9 : decode c_X_bindClass 9 = .ok (.aload_n 0, 1) := by decide +kernel
theorem d_X_bindClass_10 : decode c_X_bindClass 10 = .ok (.iload_n 1, 1) := by decide +kernel
theorem d_X_bindClass_11 : decode c_X_bindClass 11 = .ok (.iload_n 2, 1) := by decide +kernel
theorem d_X_bindClass_12 : decode c_X_bindClass 12 = .ok (.invokevirtual 54, 3) := by decide +kernel
theorem d_X_bindClass_15 : decode c_X_bindClass 15 = .ok (.ifCond .ne 5, 3) := by decide +kernel
theorem d_X_bindClass_18 : decode c_X_bindClass 18 = .ok (.iconst (-1), 1) := by decide +kernel
theorem d_X_bindClass_19 : decode c_X_bindClass 19 = .ok (.ireturn, 1) := by decide +kernel
theorem d_X_bindClass_20 : decode c_X_bindClass 20 = .ok (.aload_n 0, 1) := by decide +kernel
theorem d_X_bindClass_21 : decode c_X_bindClass 21 = .ok (.getfield 36, 3) := by decide +kernel
theorem d_X_bindClass_24 : decode c_X_bindClass 24 = .ok (.astore 4, 2) := by decide +kernel
theorem d_X_bindClass_26 : decode c_X_bindClass 26 = .ok (.aload_n 0, 1) := by decide +kernel
theorem d_X_bindClass_27 : decode c_X_bindClass 27 = .ok (.getfield 19, 3) := by decide +kernel
theorem d_X_bindClass_30 : decode c_X_bindClass 30 = .ok (.iload_n 1, 1) := by decide +kernel
theorem d_X_bindClass_31 : decode c_X_bindClass 31 = .ok (.iload_n 2, 1) := by decide +kernel
theorem d_X_bindClass_32 : decode c_X_bindClass 32 = .ok (.invokestatic 58, 3) := by decide +kernel
theorem d_X_bindClass_35 : decode c_X_bindClass 35 = .ok (.new 17, 3) := by decide +kernel
theorem d_X_bindClass_38 : decode c_X_bindClass 38 = .ok (.dup, 1) := by decide +kernel
theorem d_X_bindClass_39 : decode c_X_bindClass 39 = .ok (.getstatic 74, 3) := by decide +kernel
theorem d_X_bindClass_42 : decode c_X_bindClass 42 = .ok (.iload_n 1, 1) := by decide +kernel
theorem d_X_bindClass_43 : decode c_X_bindClass 43 = .ok (.iload_n 2, 1) := by decide +kernel
theorem d_X_bindClass_44 : decode c_X_bindClass 44 = .ok (.iconst 0, 1) := by decide +kernel
theorem d_X_bindClass_45 : decode c_X_bindClass 45 = .ok (.iload_n 3, 1) := by decide +kernel
theorem d_X_bindClass_46 : decode c_X_bindClass 46 = .ok (.aload 4, 2) := by decide +kernel
theorem d_X_bindClass_48 : decode c_X_bindClass 48 = .ok (.invokespecial 68, 3) := by decide +kernel
theorem d_X_bindClass_51 : decode c_X_bindClass 51 = .ok (.aastore, 1) := by decide +kernel
theorem d_X_bindClass_52 : decode c_X_bindClass 52 = .ok (.aload_n 0, 1) := by decide +kernel
theorem d_X_bindClass_53 : decode c_X_bindClass 53 = .ok (.new 33, 3) := by decide +kernel
theorem d_X_bindClass_56 : decode c_X_bindClass 56 = .ok (.dup, 1) := by decide +kernel
theorem d_X_bindClass_57 : decode c_X_bindClass 57 = .ok (.invokespecial 35, 3) := by decide +kernel
theorem d_X_bindClass_60 : decode c_X_bindClass 60 = .ok (.putfield 36, 3) := by decide +kernel
theorem d_X_bindClass_63 : decode c_X_bindClass 63 = .ok (.aload 4, 2) := by decide +kernel
theorem d_X_bindClass_65 : decode c_X_bindClass 65 = .ok (.getfield 47, 3) := by decide +kernel
theorem d_X_bindClass_68 : decode c_X_bindClass 68 = .ok (.ireturn, 1) := by decide +kernel
theorem d_X_unbind_0 : decode c_X_unbind 0 = .ok (.aload_n 0, 1) := by decide +kernel
theorem d_X_unbind_1 : decode c_X_unbind 1 = .ok (.iload_n 1, 1) := by decide +kernel
theorem d_X_unbind_2 : decode c_X_unbind 2 = .ok (.iload_n 2, 1) := by decide +kernel
theorem d_X_unbind_3 : decode c_X_unbind 3 = .ok (.invokevirtual 77, 3) := by decide +kernel
theorem d_X_unbind_6 : decode c_X_unbind 6 = .ok (.ifCond .eq 16, 3) := by decide +kernel
theorem d_X_unbind_9 : decode c_X_unbind 9 = .ok (.aload_n 0, 1) := by decide +kernel
theorem d_X_unbind_10 : decode c_X_unbind 10 = .ok (.getfield 19, 3) := by decide +kernel
theorem d_X_unbind_13 : decode c_X_unbind 13 = .ok (.iload_n 1, 1) := by decide +kernel
theorem d_X_unbind_14 : decode c_X_unbind 14 = .ok (.iload_n 2, 1) := by decide +kernel
theorem d_X_unbind_15 : decode c_X_unbind 15 = .ok (.invokestatic 58, 3) := by decide +kernel
theorem d_X_unbind_18 : decode c_X_unbind 18 = .ok (.aaload, 1) := by decide +kernel
theorem d_X_unbind_19 : decode c_X_unbind 19 = .ok (.ifnonnull 5, 3) := by decide +kernel
theorem d_X_unbind_22 : decode c_X_unbind 22 = .ok (.iconst (-1), 1) := by decide +kernel
theorem d_X_unbind_23 : decode c_X_unbind 23 = .ok (.ireturn, 1) := by decide +kernel
theorem d_X_unbind_24 : decode c_X_unbind 24 = .ok (.aload_n 0, 1) := by decide +kernel
theorem d_X_unbind_25 : decode c_X_unbind 25 = .ok (.getfield 19, 3) := by decide +kernel
theorem d_X_unbind_28 : decode c_X_unbind 28 = .ok (.iload_n 1, 1) := by decide +kernel
theorem d_X_unbind_29 : decode c_X_unbind 29 = .ok (.iload_n 2, 1) := by decide +kernel
theorem d_X_unbind_30 : decode c_X_unbind 30 = .ok (.invokestatic 58, 3) := by decide +kernel
theorem d_X_unbind_33 : decode c_X_unbind 33 = .ok (.aconst_null, 1) := by decide +kernel
theorem d_X_unbind_34 : decode c_X_unbind 34 = .ok (.aastore, 1) := by decide +kernel
theorem d_X_unbind_35 : decode c_X_unbind 35 = .ok (.iconst 1, 1) := by decide +kernel
theorem d_X_unbind_36 : decode c_X_unbind 36 = .ok (.ireturn, 1) := by decide +kernel
theorem d_X_open_0 : decode c_X_open 0 = .ok (.aload_n 0, 1) := by decide +kernel
theorem d_X_open_1 : decode c_X_open 1 = .ok (.getfield 80, 3) := by decide +kernel
theorem d_X_open_4 : decode c_X_open 4 = .ok (.ifCond .eq 5, 3) := by decide +kernel
theorem d_X_open_7 : decode c_X_open 7 = .ok (.iconst (-1), 1) := by decide +kernel
theorem d_X_open_8 : decode c_X_open 8 = .ok (.ireturn, 1) := by decide +kernel
theorem d_X_open_9 : decode c_X_open 9 = .ok (.aload_n 0, 1) := by decide +kernel
theorem d_X_open_10 : decode c_X_open 10 = .ok (.iconst 1, 1) := by decide +kernel
theorem d_X_open_11 : decode c_X_open 11 = .ok (.putfield 80, 3) := by decide +kernel
theorem d_X_open_14 : decode c_X_open 14 = .ok (.iconst 1, 1) := by decide +kernel
theorem d_X_open_15 : decode c_X_open 15 = .ok (.ireturn, 1) := by decide +kernel
theorem d_X_close_0 : decode c_X_close 0 = .ok (.aload_n 0, 1) := by decide +kernel
theorem d_X_close_1 : decode c_X_close 1 = .ok (.getfield 80, 3) := by decide +kernel
theorem d_X_close_4 : decode c_X_close 4 = .ok (.ifCond .ne 5, 3) := by decide +kernel
theorem d_X_close_7 : decode c_X_close 7 = .ok (.iconst (-1), 1) := by decide +kernel
theorem d_X_close_8 : decode c_X_close 8 = .ok (.ireturn, 1) := by decide +kernel
theorem d_X_close_9 : decode c_X_close 9 = .ok (.aload_n 0, 1) := by decide +kernel
theorem d_X_close_10 : decode c_X_close 10 = .ok (.iconst 2, 1) := by decide +kernel
theorem d_X_close_11 : decode c_X_close 11 = .ok (.invokevirtual 84, 3) := by decide +kernel
theorem d_X_close_14 : decode c_X_close 14 = .ok (.istore_n 1, 1) := by decide +kernel
theorem d_X_close_15 : decode c_X_close 15 = .ok (.aload_n 0, 1) := by decide +kernel
theorem d_X_close_16 : decode c_X_close 16 = .ok (.getfield 19, 3) := by decide +kernel
theorem d_X_close_19 : decode c_X_close 19 = .ok (.astore_n 2, 1) := by decide +kernel
theorem d_X_close_20 : decode c_X_close 20 = .ok (.aload_n 2, 1) := by decide +kernel
theorem d_X_close_21 : decode c_X_close 21 = .ok (.arraylength, 1) := by decide +kernel
theorem d_X_close_22 : decode c_X_close 22 = .ok (.istore_n 3, 1) := by decide +kernel
theorem d_X_close_23 : decode c_X_close 23 = .ok (.iconst 0, 1) := by decide +kernel
theorem d_X_close_24 : decode c_X_close 24 = .ok (.istore 4, 2) := by decide +kernel
theorem d_X_close_26 : decode c_X_close 26 = .ok (.iload 4, 2) := by decide +kernel
theorem d_X_close_28 : decode c_X_close 28 = .ok (.iload_n 3, 1) := by decide +kernel
theorem d_X_close_29 : decode c_X_close 29 = .ok (.if_icmp .ge 35, 3) := by decide +kernel
theorem d_X_close_32 : decode c_X_close 32 = .ok (.aload_n 2, 1) := by decide +kernel
theorem d_X_close_33 : decode c_X_close 33 = .ok (.iload 4, 2) := by decide +kernel
theorem d_X_close_35 : decode c_X_close 35 = .ok (.aaload, 1) := by decide +kernel
theorem d_X_close_36 : decode c_X_close 36 = .ok (.astore 5, 2) := by decide +kernel
theorem d_X_close_38 : decode c_X_close 38 = .ok (.aload 5, 2) := by decide +kernel
theorem d_X_close_40 : decode c_X_close 40 = .ok (.ifnull 18, 3) := by decide +kernel
theorem d_X_close_43 : decode c_X_close 43 = .ok (.aload 5, 2) := by decide +kernel
theorem d_X_close_45 : decode c_X_close 45 = .ok (.getfield 88, 3) := by decide +kernel
theorem d_X_close_48 : decode c_X_close 48 = .ok (.iconst 2, 1) := by decide +kernel
theorem d_X_close_49 : decode c_X_close 49 = .ok (.if_icmp .ne 9, 3) := by decide +kernel
theorem d_X_close_52 : decode c_X_close 52 = .ok (.aload 5, 2) := by decide +kernel
theorem d_X_close_54 : decode c_X_close 54 = .ok (.iconst (-1), 1) := by decide +kernel
theorem d_X_close_55 : decode c_X_close 55 = .ok (.putfield 91, 3) := by decide +kernel
theorem d_X_close_58 : decode c_X_close 58 = .ok (.iinc 4 1, 3) := by decide +kernel
theorem d_X_close_61 : decode c_X_close 61 = .ok (.goto (-35), 3) := by decide +kernel
theorem d_X_close_64 : decode c_X_close 64 = .ok (.aload_n 0, 1) := by decide +kernel
theorem d_X_close_65 : decode c_X_close 65 = .ok (.iconst 0, 1) := by decide +kernel
theorem d_X_close_66 : decode c_X_close 66 = .ok (.putfield 80, 3) := by decide +kernel
theorem d_X_close_69 : decode c_X_close 69 = .ok (.iload_n 1, 1) := by decide +kernel
theorem d_X_close_70 : decode c_X_close 70 = .ok (.ireturn, 1) := by decide +kernel
theorem d_X_get_0 : decode c_X_get 0 = .ok (.aload_n 0, 1) := by decide +kernel
theorem d_X_get_1 : decode c_X_get 1 = .ok (.iload_n 1, 1) := by decide +kernel
theorem d_X_get_2 : decode c_X_get 2 = .ok (.iload_n 2, 1) := by decide +kernel
theorem d_X_get_3 : decode c_X_get 3 = .ok (.invokevirtual 77, 3) := by decide +kernel
theorem d_X_get_6 : decode c_X_get 6 = .ok (.ifCond .ne 7, 3) := by decide +kernel
theorem d_X_get_9 : decode c_X_get 9 = .ok (.ldc2_w 94, 3) := by decide +kernel
theorem d_X_get_12 : decode c_X_get 12 = .ok (.lreturn, 1) := by decide +kernel
theorem d_X_get_13 : decode c_X_get 13 = .ok (.aload_n 0, 1) := by decide +kernel
theorem d_X_get_14 : decode c_X_get 14 = .ok (.iload_n 1, 1) := by decide +kernel
theorem d_X_get_15 : decode c_X_get 15 = .ok (.iload_n 2, 1) := by decide +kernel
theorem d_X_get_16 : decode c_X_get 16 = .ok (.invokevirtual 96, 3) := by decide +kernel
theorem d_X_get_19 : decode c_X_get 19 = .ok (.lreturn, 1) := by decide +kernel
theorem d_X_ask_0 : decode c_X_ask 0 = .ok (.aload_n 0, 1) := by decide +kernel
theorem d_X_ask_1 : decode c_X_ask 1 = .ok (.iload_n 1, 1) := by decide +kernel
theorem d_X_ask_2 : decode c_X_ask 2 = .ok (.invokevirtual 100, 3) := by decide +kernel
theorem d_X_ask_5 : decode c_X_ask 5 = .ok (.astore_n 3, 1) := by decide +kernel
theorem d_X_ask_6 : decode c_X_ask 6 = .ok (.aload_n 3, 1) := by decide +kernel
theorem d_X_ask_7 : decode c_X_ask 7 = .ok (.ifnull 11, 3) := by decide +kernel
theorem d_X_ask_10 : decode c_X_ask 10 = .ok (.aload_n 3, 1) := by decide +kernel
theorem d_X_ask_11 : decode c_X_ask 11 = .ok (.iload_n 2, 1) := by decide +kernel
theorem d_X_ask_12 : decode c_X_ask 12 = .ok (.invokestatic 104, 3) := by decide +kernel
theorem d_X_ask_15 : decode c_X_ask 15 = .ok (.ifCond .ne 7, 3) := by decide +kernel
theorem d_X_ask_18 : decode c_X_ask 18 = .ok (.ldc2_w 94, 3) := by decide +kernel
theorem d_X_ask_21 : decode c_X_ask 21 = .ok (.lreturn, 1) := by decide +kernel
theorem d_X_ask_22 : decode c_X_ask 22 = .ok (.aload_n 3, 1) := by decide +kernel
theorem d_X_ask_23 : decode c_X_ask 23 = .ok (.getfield 108, 3) := by decide +kernel
theorem d_X_ask_26 : decode c_X_ask 26 = .ok (.getfield 111, 3) := by decide +kernel
theorem d_X_ask_29 : decode c_X_ask 29 = .ok (.iload_n 2, 1) := by decide +kernel
theorem d_X_ask_30 : decode c_X_ask 30 = .ok (.baload, 1) := by decide +kernel
theorem d_X_ask_31 : decode c_X_ask 31 = .ok (.ifCond .eq 21, 3) := by decide +kernel
theorem d_X_ask_34 : decode c_X_ask 34 = .ok (.aload_n 0, 1) := by decide +kernel
theorem d_X_ask_35 : decode c_X_ask 35 = .ok (.aload_n 3, 1) := by decide +kernel
theorem d_X_ask_36 : decode c_X_ask 36 = .ok (.getfield 115, 3) := by decide +kernel
theorem d_X_ask_39 : decode c_X_ask 39 = .ok (.aload_n 3, 1) := by decide +kernel
theorem d_X_ask_40 : decode c_X_ask 40 = .ok (.getfield 108, 3) := by decide +kernel
theorem d_X_ask_43 : decode c_X_ask 43 = .ok (.getfield 118, 3) := by decide +kernel
theorem d_X_ask_46 : decode c_X_ask 46 = .ok (.iload_n 2, 1) := by decide +kernel
theorem d_X_ask_47 : decode c_X_ask 47 = .ok (.iaload, 1) := by decide +kernel
theorem d_X_ask_48 : decode c_X_ask 48 = .ok (.invokevirtual 96, 3) := by decide +kernel
theorem d_X_ask_51 : decode c_X_ask 51 = .ok (.lreturn, 1) := by decide +kernel
theorem d_X_ask_52 : decode c_X_ask 52 = .ok (.aload_n 0, 1) := by decide +kernel
theorem d_X_ask_53 : decode c_X_ask 53 = .ok (.getfield 26, 3) := by decide +kernel
theorem d_X_ask_56 : decode c_X_ask 56 = .ok (.iload_n 1, 1) := by decide +kernel
theorem d_X_ask_57 : decode c_X_ask 57 = .ok (.iconst 4, 1) := by decide +kernel
theorem d_X_ask_58 : decode c_X_ask 58 = .ok (.imul, 1) := by decide +kernel
theorem d_X_ask_59 : decode c_X_ask 59 = .ok (.iload_n 2, 1) := by decide +kernel
theorem d_X_ask_60 : decode c_X_ask 60 = .ok (.iadd, 1) := by decide +kernel
theorem d_X_ask_61 : decode c_X_ask 61 = .ok (.laload, 1) := by decide +kernel
theorem d_X_ask_62 : decode c_X_ask 62 = .ok (.lreturn, 1) := by decide +kernel
theorem d_X_held_0 : decode c_X_held 0 = .ok (.aload_n 0, 1) := by decide +kernel
theorem d_X_held_1 : decode c_X_held 1 = .ok (.iload_n 1, 1) := by decide +kernel
theorem d_X_held_2 : decode c_X_held 2 = .ok (.invokevirtual 100, 3) := by decide +kernel
theorem d_X_held_5 : decode c_X_held 5 = .ok (.astore_n 3, 1) := by decide +kernel
theorem d_X_held_6 : decode c_X_held 6 = .ok (.aload_n 3, 1) := by decide +kernel
theorem d_X_held_7 : decode c_X_held 7 = .ok (.ifnull 11, 3) := by decide +kernel
theorem d_X_held_10 : decode c_X_held 10 = .ok (.aload_n 3, 1) := by decide +kernel
theorem d_X_held_11 : decode c_X_held 11 = .ok (.iload_n 2, 1) := by decide +kernel
theorem d_X_held_12 : decode c_X_held 12 = .ok (.invokestatic 104, 3) := by decide +kernel
theorem d_X_held_15 : decode c_X_held 15 = .ok (.ifCond .ne 7, 3) := by decide +kernel
theorem d_X_held_18 : decode c_X_held 18 = .ok (.ldc2_w 94, 3) := by decide +kernel
theorem d_X_held_21 : decode c_X_held 21 = .ok (.lreturn, 1) := by decide +kernel
theorem d_X_held_22 : decode c_X_held 22 = .ok (.aload_n 0, 1) := by decide +kernel
theorem d_X_held_23 : decode c_X_held 23 = .ok (.getfield 26, 3) := by decide +kernel
theorem d_X_held_26 : decode c_X_held 26 = .ok (.iload_n 1, 1) := by decide +kernel
theorem d_X_held_27 : decode c_X_held 27 = .ok (.iconst 4, 1) := by decide +kernel
theorem d_X_held_28 : decode c_X_held 28 = .ok (.imul, 1) := by decide +kernel
theorem d_X_held_29 : decode c_X_held 29 = .ok (.iload_n 2, 1) := by decide +kernel
theorem d_X_held_30 : decode c_X_held 30 = .ok (.iadd, 1) := by decide +kernel
theorem d_X_held_31 : decode c_X_held 31 = .ok (.laload, 1) := by decide +kernel
theorem d_X_held_32 : decode c_X_held 32 = .ok (.lreturn, 1) := by decide +kernel
theorem d_X_about_0 : decode c_X_about 0 = .ok (.aload_n 0, 1) := by decide +kernel
theorem d_X_about_1 : decode c_X_about 1 = .ok (.iload_n 1, 1) := by decide +kernel
theorem d_X_about_2 : decode c_X_about 2 = .ok (.invokevirtual 100, 3) := by decide +kernel
theorem d_X_about_5 : decode c_X_about 5 = .ok (.astore_n 3, 1) := by decide +kernel
theorem d_X_about_6 : decode c_X_about 6 = .ok (.aload_n 3, 1) := by decide +kernel
theorem d_X_about_7 : decode c_X_about 7 = .ok (.ifnonnull 5, 3) := by decide +kernel
theorem d_X_about_10 : decode c_X_about 10 = .ok (.iconst (-1), 1) := by decide +kernel
theorem d_X_about_11 : decode c_X_about 11 = .ok (.ireturn, 1) := by decide +kernel
theorem d_X_about_12 : decode c_X_about 12 = .ok (.iload_n 2, 1) := by decide +kernel
theorem d_X_about_13 : decode c_X_about 13 = .ok (.tableswitch 54 0 3 #[31, 36, 41, 49], 31) := by decide +kernel
theorem d_X_about_44 : decode c_X_about 44 = .ok (.aload_n 3, 1) := by decide +kernel
theorem d_X_about_45 : decode c_X_about 45 = .ok (.getfield 121, 3) := by decide +kernel
theorem d_X_about_48 : decode c_X_about 48 = .ok (.ireturn, 1) := by decide +kernel
theorem d_X_about_49 : decode c_X_about 49 = .ok (.aload_n 3, 1) := by decide +kernel
theorem d_X_about_50 : decode c_X_about 50 = .ok (.getfield 115, 3) := by decide +kernel
theorem d_X_about_53 : decode c_X_about 53 = .ok (.ireturn, 1) := by decide +kernel
theorem d_X_about_54 : decode c_X_about 54 = .ok (.aload_n 3, 1) := by decide +kernel
theorem d_X_about_55 : decode c_X_about 55 = .ok (.getfield 108, 3) := by decide +kernel
theorem d_X_about_58 : decode c_X_about 58 = .ok (.getfield 47, 3) := by decide +kernel
theorem d_X_about_61 : decode c_X_about 61 = .ok (.ireturn, 1) := by decide +kernel
theorem d_X_about_62 : decode c_X_about 62 = .ok (.aload_n 3, 1) := by decide +kernel
theorem d_X_about_63 : decode c_X_about 63 = .ok (.getfield 88, 3) := by decide +kernel
theorem d_X_about_66 : decode c_X_about 66 = .ok (.ireturn, 1) := by decide +kernel
theorem d_X_about_67 : decode c_X_about 67 = .ok (.iconst (-1), 1) := by decide +kernel
theorem d_X_about_68 : decode c_X_about 68 = .ok (.ireturn, 1) := by decide +kernel
theorem d_X_broken_0 : decode c_X_broken 0 = .ok (.aload_n 0, 1) := by decide +kernel
theorem d_X_broken_1 : decode c_X_broken 1 = .ok (.iload_n 1, 1) := by decide +kernel
theorem d_X_broken_2 : decode c_X_broken 2 = .ok (.invokevirtual 40, 3) := by decide +kernel
theorem d_X_broken_5 : decode c_X_broken 5 = .ok (.ifCond .ne 5, 3) := by decide +kernel
theorem d_X_broken_8 : decode c_X_broken 8 = .ok (.iconst (-1), 1) := by decide +kernel
theorem d_X_broken_9 : decode c_X_broken 9 = .ok (.ireturn, 1) := by decide +kernel
theorem d_X_broken_10 : decode c_X_broken 10 = .ok (.iconst 0, 1) := by decide +kernel
theorem d_X_broken_11 : decode c_X_broken 11 = .ok (.istore_n 2, 1) := by decide +kernel
theorem d_X_broken_12 : decode c_X_broken 12 = .ok (.iload_n 2, 1) := by decide +kernel
theorem d_X_broken_13 : decode c_X_broken 13 = .ok (.bipush 12, 2) := by decide +kernel
theorem d_X_broken_15 : decode c_X_broken 15 = .ok (.if_icmp .ge 29, 3) := by decide +kernel
theorem d_X_broken_18 : decode c_X_broken 18 = .ok (.aload_n 0, 1) := by decide +kernel
theorem d_X_broken_19 : decode c_X_broken 19 = .ok (.iload_n 1, 1) := by decide +kernel
theorem d_X_broken_20 : decode c_X_broken 20 = .ok (.iload_n 2, 1) := by decide +kernel
theorem d_X_broken_21 : decode c_X_broken 21 = .ok (.invokevirtual 124, 3) := by decide +kernel
theorem d_X_broken_24 : decode c_X_broken 24 = .ok (.ifnull 14, 3) := by decide +kernel
theorem d_X_broken_27 : decode c_X_broken 27 = .ok (.aload_n 0, 1) := by decide +kernel
theorem d_X_broken_28 : decode c_X_broken 28 = .ok (.iload_n 1, 1) := by decide +kernel
theorem d_X_broken_29 : decode c_X_broken 29 = .ok (.iload_n 2, 1) := by decide +kernel
theorem d_X_broken_30 : decode c_X_broken 30 = .ok (.invokevirtual 128, 3) := by decide +kernel
theorem d_X_broken_33 : decode c_X_broken 33 = .ok (.ifCond .eq 5, 3) := by decide +kernel
theorem d_X_broken_36 : decode c_X_broken 36 = .ok (.iload_n 2, 1) := by decide +kernel
theorem d_X_broken_37 : decode c_X_broken 37 = .ok (.ireturn, 1) := by decide +kernel
theorem d_X_broken_38 : decode c_X_broken 38 = .ok (.iinc 2 1, 3) := by decide +kernel
theorem d_X_broken_41 : decode c_X_broken 41 = .ok (.goto (-29), 3) := by decide +kernel
theorem d_X_broken_44 : decode c_X_broken 44 = .ok (.bipush 12, 2) := by decide +kernel
theorem d_X_broken_46 : decode c_X_broken 46 = .ok (.ireturn, 1) := by decide +kernel
theorem d_X_reach_0 : decode c_X_reach 0 = .ok (.aload_n 0, 1) := by decide +kernel
theorem d_X_reach_1 : decode c_X_reach 1 = .ok (.iload_n 1, 1) := by decide +kernel
theorem d_X_reach_2 : decode c_X_reach 2 = .ok (.iload_n 2, 1) := by decide +kernel
theorem d_X_reach_3 : decode c_X_reach 3 = .ok (.invokevirtual 77, 3) := by decide +kernel
theorem d_X_reach_6 : decode c_X_reach 6 = .ok (.ifCond .ne 5, 3) := by decide +kernel
theorem d_X_reach_9 : decode c_X_reach 9 = .ok (.iconst (-1), 1) := by decide +kernel
theorem d_X_reach_10 : decode c_X_reach 10 = .ok (.ireturn, 1) := by decide +kernel
theorem d_X_reach_11 : decode c_X_reach 11 = .ok (.lconst 1, 1) := by decide +kernel
theorem d_X_reach_12 : decode c_X_reach 12 = .ok (.iload_n 1, 1) := by decide +kernel
theorem d_X_reach_13 : decode c_X_reach 13 = .ok (.iload_n 2, 1) := by decide +kernel
theorem d_X_reach_14 : decode c_X_reach 14 = .ok (.invokestatic 58, 3) := by decide +kernel
theorem d_X_reach_17 : decode c_X_reach 17 = .ok (.lshl, 1) := by decide +kernel
theorem d_X_reach_18 : decode c_X_reach 18 = .ok (.lstore_n 3, 1) := by decide +kernel
theorem d_X_reach_19 : decode c_X_reach 19 = .ok (.lload_n 3, 1) := by decide +kernel
theorem d_X_reach_20 : decode c_X_reach 20 = .ok (.lstore 5, 2) := by decide +kernel
theorem d_X_reach_22 : decode c_X_reach 22 = .ok (.iconst 0, 1) := by decide +kernel
theorem d_X_reach_23 : decode c_X_reach 23 = .ok (.istore 7, 2) := by decide +kernel
theorem d_X_reach_25 : decode c_X_reach 25 = .ok (.iload 7, 2) := by decide +kernel
theorem d_X_reach_27 : decode c_X_reach 27 = .ok (.bipush 36, 2) := by decide +kernel
theorem d_X_reach_29 : decode c_X_reach 29 = .ok (.if_icmp .ge 62, 3) := by decide +kernel
theorem d_X_reach_32 : decode c_X_reach 32 = .ok (.lload 5, 2) := by decide +kernel
theorem d_X_reach_34 : decode c_X_reach 34 = .ok (.lconst 0, 1) := by decide +kernel
theorem d_X_reach_35 : decode c_X_reach 35 = .ok (.lcmp, 1) := by decide +kernel
theorem d_X_reach_36 : decode c_X_reach 36 = .ok (.ifCond .eq 55, 3) := by decide +kernel
theorem d_X_reach_39 : decode c_X_reach 39 = .ok (.lload 5, 2) := by decide +kernel
theorem d_X_reach_41 : decode c_X_reach 41 = .ok (.invokestatic 131, 3) := by decide +kernel
theorem d_X_reach_44 : decode c_X_reach 44 = .ok (.istore 8, 2) := by decide +kernel
theorem d_X_reach_46 : decode c_X_reach 46 = .ok (.aload_n 0, 1) := by decide +kernel
theorem d_X_reach_47 : decode c_X_reach 47 = .ok (.iload 8, 2) := by decide +kernel
theorem d_X_reach_49 : decode c_X_reach 49 = .ok (.bipush 12, 2) := by decide +kernel
theorem d_X_reach_51 : decode c_X_reach 51 = .ok (.idiv, 1) := by decide +kernel
theorem d_X_reach_52 : decode c_X_reach 52 = .ok (.iload 8, 2) := by decide +kernel
theorem d_X_reach_54 : decode c_X_reach 54 = .ok (.bipush 12, 2) := by decide +kernel
theorem d_X_reach_56 : decode c_X_reach 56 = .ok (.irem, 1) := by decide +kernel
theorem d_X_reach_57 : decode c_X_reach 57 = .ok (.invokevirtual 137, 3) := by decide +kernel
theorem d_X_reach_60 : decode c_X_reach 60 = .ok (.lload_n 3, 1) := by decide +kernel
theorem d_X_reach_61 : decode c_X_reach 61 = .ok (.ldc2_w 94, 3) := by decide +kernel
theorem d_X_reach_64 : decode c_X_reach 64 = .ok (.lxor, 1) := by decide +kernel
theorem d_X_reach_65 : decode c_X_reach 65 = .ok (.land, 1) := by decide +kernel
theorem d_X_reach_66 : decode c_X_reach 66 = .ok (.lstore 9, 2) := by decide +kernel
theorem d_X_reach_68 : decode c_X_reach 68 = .ok (.lload_n 3, 1) := by decide +kernel
theorem d_X_reach_69 : decode c_X_reach 69 = .ok (.lload 9, 2) := by decide +kernel
theorem d_X_reach_71 : decode c_X_reach 71 = .ok (.lor, 1) := by decide +kernel
theorem d_X_reach_72 : decode c_X_reach 72 = .ok (.lstore_n 3, 1) := by decide +kernel
theorem d_X_reach_73 : decode c_X_reach 73 = .ok (.lload 5, 2) := by decide +kernel
theorem d_X_reach_75 : decode c_X_reach 75 = .ok (.lload 5, 2) := by decide +kernel
theorem d_X_reach_77 : decode c_X_reach 77 = .ok (.lconst 1, 1) := by decide +kernel
theorem d_X_reach_78 : decode c_X_reach 78 = .ok (.lsub, 1) := by decide +kernel
theorem d_X_reach_79 : decode c_X_reach 79 = .ok (.land, 1) := by decide +kernel
theorem d_X_reach_80 : decode c_X_reach 80 = .ok (.lload 9, 2) := by decide +kernel
theorem d_X_reach_82 : decode c_X_reach 82 = .ok (.lor, 1) := by decide +kernel
theorem d_X_reach_83 : decode c_X_reach 83 = .ok (.lstore 5, 2) := by decide +kernel
theorem d_X_reach_85 : decode c_X_reach 85 = .ok (.iinc 7 1, 3) := by decide +kernel
theorem d_X_reach_88 : decode c_X_reach 88 = .ok (.goto (-63), 3) := by decide +kernel
theorem d_X_reach_91 : decode c_X_reach 91 = .ok (.lload_n 3, 1) := by decide +kernel
theorem d_X_reach_92 : decode c_X_reach 92 = .ok (.invokestatic 140, 3) := by decide +kernel
theorem d_X_reach_95 : decode c_X_reach 95 = .ok (.ireturn, 1) := by decide +kernel
theorem d_X_home_0 : decode c_X_home 0 = .ok (.aload_n 0, 1) := by decide +kernel
theorem d_X_home_1 : decode c_X_home 1 = .ok (.iload_n 1, 1) := by decide +kernel
theorem d_X_home_2 : decode c_X_home 2 = .ok (.iload_n 2, 1) := by decide +kernel
theorem d_X_home_3 : decode c_X_home 3 = .ok (.invokevirtual 77, 3) := by decide +kernel
theorem d_X_home_6 : decode c_X_home 6 = .ok (.ifCond .ne 5, 3) := by decide +kernel
theorem d_X_home_9 : decode c_X_home 9 = .ok (.iconst (-1), 1) := by decide +kernel
theorem d_X_home_10 : decode c_X_home 10 = .ok (.ireturn, 1) := by decide +kernel
theorem d_X_home_11 : decode c_X_home 11 = .ok (.aload_n 0, 1) := by decide +kernel
theorem d_X_home_12 : decode c_X_home 12 = .ok (.iload_n 1, 1) := by decide +kernel
theorem d_X_home_13 : decode c_X_home 13 = .ok (.iload_n 2, 1) := by decide +kernel
theorem d_X_home_14 : decode c_X_home 14 = .ok (.invokevirtual 124, 3) := by decide +kernel
theorem d_X_home_17 : decode c_X_home 17 = .ok (.astore_n 3, 1) := by decide +kernel
theorem d_X_home_18 : decode c_X_home 18 = .ok (.aload_n 3, 1) := by decide +kernel
theorem d_X_home_19 : decode c_X_home 19 = .ok (.ifnonnull 7, 3) := by decide +kernel
theorem d_X_home_22 : decode c_X_home 22 = .ok (.iconst 3, 1) := by decide +kernel
theorem d_X_home_23 : decode c_X_home 23 = .ok (.goto 7, 3) := by decide +kernel
theorem d_X_home_26 : decode c_X_home 26 = .ok (.aload_n 3, 1) := by decide +kernel
theorem d_X_home_27 : decode c_X_home 27 = .ok (.getfield 115, 3) := by decide +kernel
theorem d_X_home_30 : decode c_X_home 30 = .ok (.ireturn, 1) := by decide +kernel
theorem d_X_count_0 : decode c_X_count 0 = .ok (.iload_n 1, 1) := by decide +kernel
theorem d_X_count_1 : decode c_X_count 1 = .ok (.tableswitch 79 0 5 #[39, 44, 49, 54, 60, 66], 39) := by decide +kernel
theorem d_X_count_40 : decode c_X_count 40 = .ok (.aload_n 0, 1) := by decide +kernel
theorem d_X_count_41 : decode c_X_count 41 = .ok (.getfield 13, 3) := by decide +kernel
theorem d_X_count_44 : decode c_X_count 44 = .ok (.ireturn, 1) := by decide +kernel
theorem d_X_count_45 : decode c_X_count 45 = .ok (.aload_n 0, 1) := by decide +kernel
theorem d_X_count_46 : decode c_X_count 46 = .ok (.getfield 143, 3) := by decide +kernel
theorem d_X_count_49 : decode c_X_count 49 = .ok (.ireturn, 1) := by decide +kernel
theorem d_X_count_50 : decode c_X_count 50 = .ok (.aload_n 0, 1) := by decide +kernel
theorem d_X_count_51 : decode c_X_count 51 = .ok (.invokevirtual 146, 3) := by decide +kernel
theorem d_X_count_54 : decode c_X_count 54 = .ok (.ireturn, 1) := by decide +kernel
theorem d_X_count_55 : decode c_X_count 55 = .ok (.aload_n 0, 1) := by decide +kernel
theorem d_X_count_56 : decode c_X_count 56 = .ok (.iconst 1, 1) := by decide +kernel
theorem d_X_count_57 : decode c_X_count 57 = .ok (.invokevirtual 84, 3) := by decide +kernel
theorem d_X_count_60 : decode c_X_count 60 = .ok (.ireturn, 1) := by decide +kernel
theorem d_X_count_61 : decode c_X_count 61 = .ok (.aload_n 0, 1) := by decide +kernel
theorem d_X_count_62 : decode c_X_count 62 = .ok (.iconst 2, 1) := by decide +kernel
theorem d_X_count_63 : decode c_X_count 63 = .ok (.invokevirtual 84, 3) := by decide +kernel
theorem d_X_count_66 : decode c_X_count 66 = .ok (.ireturn, 1) := by decide +kernel
theorem d_X_count_67 : decode c_X_count 67 = .ok (.aload_n 0, 1) := by decide +kernel
theorem d_X_count_68 : decode c_X_count 68 = .ok (.getfield 80, 3) := by decide +kernel
theorem d_X_count_71 : decode c_X_count 71 = .ok (.ifCond .eq 7, 3) := by decide +kernel
theorem d_X_count_74 : decode c_X_count 74 = .ok (.iconst 1, 1) := by decide +kernel
theorem d_X_count_75 : decode c_X_count 75 = .ok (.goto 4, 3) := by decide +kernel
theorem d_X_count_78 : decode c_X_count 78 = .ok (.iconst 0, 1) := by decide +kernel
theorem d_X_count_79 : decode c_X_count 79 = .ok (.ireturn, 1) := by decide +kernel
theorem d_X_count_80 : decode c_X_count 80 = .ok (.iconst (-1), 1) := by decide +kernel
theorem d_X_count_81 : decode c_X_count 81 = .ok (.ireturn, 1) := by decide +kernel
theorem d_X_isInjector_0 : decode c_X_isInjector 0 = .ok (.iload_n 1, 1) := by decide +kernel
theorem d_X_isInjector_1 : decode c_X_isInjector 1 = .ok (.ifCond .lt 15, 3) := by decide +kernel
theorem d_X_isInjector_4 : decode c_X_isInjector 4 = .ok (.iload_n 1, 1) := by decide +kernel
theorem d_X_isInjector_5 : decode c_X_isInjector 5 = .ok (.aload_n 0, 1) := by decide +kernel
theorem d_X_isInjector_6 : decode c_X_isInjector 6 = .ok (.getfield 13, 3) := by decide +kernel
theorem d_X_isInjector_9 : decode c_X_isInjector 9 = .ok (.if_icmp .ge 7, 3) := by decide +kernel
theorem d_X_isInjector_12 : decode c_X_isInjector 12 = .ok (.iconst 1, 1) := by decide +kernel
theorem d_X_isInjector_13 : decode c_X_isInjector 13 = .ok (.goto 4, 3) := by decide +kernel
theorem d_X_isInjector_16 : decode c_X_isInjector 16 = .ok (.iconst 0, 1) := by decide +kernel
theorem d_X_isInjector_17 : decode c_X_isInjector 17 = .ok (.ireturn, 1) := by decide +kernel
theorem d_X_isKey_0 : decode c_X_isKey 0 = .ok (.iload_n 0, 1) := by decide +kernel
theorem d_X_isKey_1 : decode c_X_isKey 1 = .ok (.ifCond .lt 13, 3) := by decide +kernel
theorem d_X_isKey_4 : decode c_X_isKey 4 = .ok (.iload_n 0, 1) := by decide +kernel
theorem d_X_isKey_5 : decode c_X_isKey 5 = .ok (.bipush 12, 2) := by decide +kernel
theorem d_X_isKey_7 : decode c_X_isKey 7 = .ok (.if_icmp .ge 7, 3) := by decide +kernel
theorem d_X_isKey_10 : decode c_X_isKey 10 = .ok (.iconst 1, 1) := by decide +kernel
theorem d_X_isKey_11 : decode c_X_isKey 11 = .ok (.goto 4, 3) := by decide +kernel
theorem d_X_isKey_14 : decode c_X_isKey 14 = .ok (.iconst 0, 1) := by decide +kernel
theorem d_X_isKey_15 : decode c_X_isKey 15 = .ok (.ireturn, 1) := by decide +kernel
theorem d_X_isPair_0 : decode c_X_isPair 0 = .ok (.aload_n 0, 1) := by decide +kernel
theorem d_X_isPair_1 : decode c_X_isPair 1 = .ok (.iload_n 1, 1) := by decide +kernel
theorem d_X_isPair_2 : decode c_X_isPair 2 = .ok (.invokevirtual 40, 3) := by decide +kernel
theorem d_X_isPair_5 : decode c_X_isPair 5 = .ok (.ifCond .eq 14, 3) := by decide +kernel
theorem d_X_isPair_8 : decode c_X_isPair 8 = .ok (.iload_n 2, 1) := by decide +kernel
theorem d_X_isPair_9 : decode c_X_isPair 9 = .ok (.invokestatic 44, 3) := by decide +kernel
theorem d_X_isPair_12 : decode c_X_isPair 12 = .ok (.ifCond .eq 7, 3) := by decide +kernel
theorem d_X_isPair_15 : decode c_X_isPair 15 = .ok (.iconst 1, 1) := by decide +kernel
theorem d_X_isPair_16 : decode c_X_isPair 16 = .ok (.goto 4, 3) := by decide +kernel
theorem d_X_isPair_19 : decode c_X_isPair 19 = .ok (.iconst 0, 1) := by decide +kernel
theorem d_X_isPair_20 : decode c_X_isPair 20 = .ok (.ireturn, 1) := by decide +kernel
theorem d_X_isUnbound_0 : decode c_X_isUnbound 0 = .ok (.aload_n 0, 1) := by decide +kernel
theorem d_X_isUnbound_1 : decode c_X_isUnbound 1 = .ok (.iload_n 1, 1) := by decide +kernel
theorem d_X_isUnbound_2 : decode c_X_isUnbound 2 = .ok (.iload_n 2, 1) := by decide +kernel
theorem d_X_isUnbound_3 : decode c_X_isUnbound 3 = .ok (.invokevirtual 77, 3) := by decide +kernel
theorem d_X_isUnbound_6 : decode c_X_isUnbound 6 = .ok (.ifCond .eq 20, 3) := by decide +kernel
theorem d_X_isUnbound_9 : decode c_X_isUnbound 9 = .ok (.aload_n 0, 1) := by decide +kernel
theorem d_X_isUnbound_10 : decode c_X_isUnbound 10 = .ok (.getfield 19, 3) := by decide +kernel
theorem d_X_isUnbound_13 : decode c_X_isUnbound 13 = .ok (.iload_n 1, 1) := by decide +kernel
theorem d_X_isUnbound_14 : decode c_X_isUnbound 14 = .ok (.iload_n 2, 1) := by decide +kernel
theorem d_X_isUnbound_15 : decode c_X_isUnbound 15 = .ok (.invokestatic 58, 3) := by decide +kernel
theorem d_X_isUnbound_18 : decode c_X_isUnbound 18 = .ok (.aaload, 1) := by decide +kernel
theorem d_X_isUnbound_19 : decode c_X_isUnbound 19 = .ok (.ifnonnull 7, 3) := by decide +kernel
theorem d_X_isUnbound_22 : decode c_X_isUnbound 22 = .ok (.iconst 1, 1) := by decide +kernel
theorem d_X_isUnbound_23 : decode c_X_isUnbound 23 = .ok (.goto 4, 3) := by decide +kernel
theorem d_X_isUnbound_26 : decode c_X_isUnbound 26 = .ok (.iconst 0, 1) := by decide +kernel
theorem d_X_isUnbound_27 : decode c_X_isUnbound 27 = .ok (.ireturn, 1) := by decide +kernel
theorem d_X_pairOf_0 : decode c_X_pairOf 0 = .ok (.iload_n 0, 1) := by decide +kernel
theorem d_X_pairOf_1 : decode c_X_pairOf 1 = .ok (.bipush 12, 2) := by decide +kernel
theorem d_X_pairOf_3 : decode c_X_pairOf 3 = .ok (.imul, 1) := by decide +kernel
theorem d_X_pairOf_4 : decode c_X_pairOf 4 = .ok (.iload_n 1, 1) := by decide +kernel
theorem d_X_pairOf_5 : decode c_X_pairOf 5 = .ok (.iadd, 1) := by decide +kernel
theorem d_X_pairOf_6 : decode c_X_pairOf 6 = .ok (.ireturn, 1) := by decide +kernel
theorem d_X_makerOf_0 : decode c_X_makerOf 0 = .ok (.iload_n 1, 1) := by decide +kernel
theorem d_X_makerOf_1 : decode c_X_makerOf 1 = .ok (.ifCond .lt 20, 3) := by decide +kernel
theorem d_X_makerOf_4 : decode c_X_makerOf 4 = .ok (.iload_n 1, 1) := by decide +kernel
theorem d_X_makerOf_5 : decode c_X_makerOf 5 = .ok (.aload_n 0, 1) := by decide +kernel
theorem d_X_makerOf_6 : decode c_X_makerOf 6 = .ok (.getfield 143, 3) := by decide +kernel
theorem d_X_makerOf_9 : decode c_X_makerOf 9 = .ok (.if_icmp .ge 12, 3) := by decide +kernel
theorem d_X_makerOf_12 : decode c_X_makerOf 12 = .ok (.aload_n 0, 1) := by decide +kernel
theorem d_X_makerOf_13 : decode c_X_makerOf 13 = .ok (.getfield 23, 3) := by decide +kernel
theorem d_X_makerOf_16 : decode c_X_makerOf 16 = .ok (.iload_n 1, 1) := by decide +kernel
theorem d_X_makerOf_17 : decode c_X_makerOf 17 = .ok (.aaload, 1) := by decide +kernel
theorem d_X_makerOf_18 : decode c_X_makerOf 18 = .ok (.goto 4, 3) := by decide +kernel
theorem d_X_makerOf_21 : decode c_X_makerOf 21 = .ok (.aconst_null, 1) := by decide +kernel
theorem d_X_makerOf_22 : decode c_X_makerOf 22 = .ok (.areturn, 1) := by decide +kernel
theorem d_X_hasNeed_0 : decode c_X_hasNeed 0 = .ok (.iload_n 1, 1) := by decide +kernel
theorem d_X_hasNeed_1 : decode c_X_hasNeed 1 = .ok (.ifCond .lt 18, 3) := by decide +kernel
theorem d_X_hasNeed_4 : decode c_X_hasNeed 4 = .ok (.iload_n 1, 1) := by decide +kernel
theorem d_X_hasNeed_5 : decode c_X_hasNeed 5 = .ok (.aload_n 0, 1) := by decide +kernel
theorem d_X_hasNeed_6 : decode c_X_hasNeed 6 = .ok (.getfield 108, 3) := by decide +kernel
theorem d_X_hasNeed_9 : decode c_X_hasNeed 9 = .ok (.getfield 47, 3) := by decide +kernel
theorem d_X_hasNeed_12 : decode c_X_hasNeed 12 = .ok (.if_icmp .ge 7, 3) := by decide +kernel
theorem d_X_hasNeed_15 : decode c_X_hasNeed 15 = .ok (.iconst 1, 1) := by decide +kernel
theorem d_X_hasNeed_16 : decode c_X_hasNeed 16 = .ok (.goto 4, 3) := by decide +kernel
theorem d_X_hasNeed_19 : decode c_X_hasNeed 19 = .ok (.iconst 0, 1) := by decide +kernel
theorem d_X_hasNeed_20 : decode c_X_hasNeed 20 = .ok (.ireturn, 1) := by decide +kernel
theorem d_X_seenFrom_0 : decode c_X_seenFrom 0 = .ok (.iload_n 1, 1) := by decide +kernel
theorem d_X_seenFrom_1 : decode c_X_seenFrom 1 = .ok (.istore_n 3, 1) := by decide +kernel
theorem d_X_seenFrom_2 : decode c_X_seenFrom 2 = .ok (.iconst 0, 1) := by decide +kernel
theorem d_X_seenFrom_3 : decode c_X_seenFrom 3 = .ok (.istore 4, 2) := by decide +kernel
theorem d_X_seenFrom_5 : decode c_X_seenFrom 5 = .ok (.iload 4, 2) := by decide +kernel
theorem d_X_seenFrom_7 : decode c_X_seenFrom 7 = .ok (.iconst 3, 1) := by decide +kernel
theorem d_X_seenFrom_8 : decode c_X_seenFrom 8 = .ok (.if_icmp .ge 41, 3) := by decide +kernel
theorem d_X_seenFrom_11 : decode c_X_seenFrom 11 = .ok (.iload_n 3, 1) := by decide +kernel
theorem d_X_seenFrom_12 : decode c_X_seenFrom 12 = .ok (.iconst (-1), 1) := by decide +kernel
theorem d_X_seenFrom_13 : decode c_X_seenFrom 13 = .ok (.if_icmp .eq 36, 3) := by decide +kernel
theorem d_X_seenFrom_16 : decode c_X_seenFrom 16 = .ok (.aload_n 0, 1) := by decide +kernel
theorem d_X_seenFrom_17 : decode c_X_seenFrom 17 = .ok (.getfield 19, 3) := by decide +kernel
theorem d_X_seenFrom_20 : decode c_X_seenFrom 20 = .ok (.iload_n 3, 1) := by decide +kernel
theorem d_X_seenFrom_21 : decode c_X_seenFrom 21 = .ok (.iload_n 2, 1) := by decide +kernel
theorem d_X_seenFrom_22 : decode c_X_seenFrom 22 = .ok (.invokestatic 58, 3) := by decide +kernel
theorem d_X_seenFrom_25 : decode c_X_seenFrom 25 = .ok (.aaload, 1) := by decide +kernel
theorem d_X_seenFrom_26 : decode c_X_seenFrom 26 = .ok (.astore 5, 2) := by decide +kernel
theorem d_X_seenFrom_28 : decode c_X_seenFrom 28 = .ok (.aload 5, 2) := by decide +kernel
theorem d_X_seenFrom_30 : decode c_X_seenFrom 30 = .ok (.ifnull 6, 3) := by decide +kernel
theorem d_X_seenFrom_33 : decode c_X_seenFrom 33 = .ok (.aload 5, 2) := by decide +kernel
theorem d_X_seenFrom_35 : decode c_X_seenFrom 35 = .ok (.areturn, 1) := by decide +kernel
theorem d_X_seenFrom_36 : decode c_X_seenFrom 36 = .ok (.aload_n 0, 1) := by decide +kernel
theorem d_X_seenFrom_37 : decode c_X_seenFrom 37 = .ok (.getfield 9, 3) := by decide +kernel
theorem d_X_seenFrom_40 : decode c_X_seenFrom 40 = .ok (.iload_n 3, 1) := by decide +kernel
theorem d_X_seenFrom_41 : decode c_X_seenFrom 41 = .ok (.iaload, 1) := by decide +kernel
theorem d_X_seenFrom_42 : decode c_X_seenFrom 42 = .ok (.istore_n 3, 1) := by decide +kernel
theorem d_X_seenFrom_43 : decode c_X_seenFrom 43 = .ok (.iinc 4 1, 3) := by decide +kernel
theorem d_X_seenFrom_46 : decode c_X_seenFrom 46 = .ok (.goto (-41), 3) := by decide +kernel
theorem d_X_seenFrom_49 : decode c_X_seenFrom 49 = .ok (.aconst_null, 1) := by decide +kernel
theorem d_X_seenFrom_50 : decode c_X_seenFrom 50 = .ok (.areturn, 1) := by decide +kernel
theorem d_X_obtainFromOutside_0 : decode c_X_obtainFromOutside 0 = .ok (.aload_n 0, 1) := by decide +kernel
theorem d_X_obtainFromOutside_1 : decode c_X_obtainFromOutside 1 = .ok (.getfield 143, 3) := by decide +kernel
theorem d_X_obtainFromOutside_4 : decode c_X_obtainFromOutside 4 = .ok (.istore_n 3, 1) := by decide +kernel
theorem d_X_obtainFromOutside_5 : decode c_X_obtainFromOutside 5 = .ok (.aload_n 0, 1) := by decide +kernel
theorem d_X_obtainFromOutside_6 : decode c_X_obtainFromOutside 6 = .ok (.iload_n 1, 1) := by decide +kernel
theorem d_X_obtainFromOutside_7 : decode c_X_obtainFromOutside 7 = .ok (.iload_n 2, 1) := by decide +kernel
theorem d_X_obtainFromOutside_8 : decode c_X_obtainFromOutside 8 = .ok (.iconst 0, 1) := by decide +kernel
theorem d_X_obtainFromOutside_9 : decode c_X_obtainFromOutside 9 = .ok (.invokevirtual 150, 3) := by decide +kernel
theorem d_X_obtainFromOutside_12 : decode c_X_obtainFromOutside 12 = .ok (.lstore 4, 2) := by decide +kernel
theorem d_X_obtainFromOutside_14 : decode c_X_obtainFromOutside 14 = .ok (.lload 4, 2) := by decide +kernel
theorem d_X_obtainFromOutside_16 : decode c_X_obtainFromOutside 16 = .ok (.invokestatic 154, 3) := by decide +kernel
theorem d_X_obtainFromOutside_19 : decode c_X_obtainFromOutside 19 = .ok (.ifCond .eq 8, 3) := by decide +kernel
theorem d_X_obtainFromOutside_22 : decode c_X_obtainFromOutside 22 = .ok (.aload_n 0, 1) := by decide +kernel
theorem d_X_obtainFromOutside_23 : decode c_X_obtainFromOutside 23 = .ok (.iload_n 3, 1) := by decide +kernel
theorem d_X_obtainFromOutside_24 : decode c_X_obtainFromOutside 24 = .ok (.invokevirtual 158, 3) := by decide +kernel
theorem d_X_obtainFromOutside_27 : decode c_X_obtainFromOutside 27 = .ok (.lload 4, 2) := by decide +kernel
theorem d_X_obtainFromOutside_29 : decode c_X_obtainFromOutside 29 = .ok (.lreturn, 1) := by decide +kernel
theorem d_X_wouldFail_0 : decode c_X_wouldFail 0 = .ok (.aload_n 0, 1) := by decide +kernel
theorem d_X_wouldFail_1 : decode c_X_wouldFail 1 = .ok (.getfield 143, 3) := by decide +kernel
theorem d_X_wouldFail_4 : decode c_X_wouldFail 4 = .ok (.istore_n 3, 1) := by decide +kernel
theorem d_X_wouldFail_5 : decode c_X_wouldFail 5 = .ok (.aload_n 0, 1) := by decide +kernel
theorem d_X_wouldFail_6 : decode c_X_wouldFail 6 = .ok (.iload_n 1, 1) := by decide +kernel
theorem d_X_wouldFail_7 : decode c_X_wouldFail 7 = .ok (.iload_n 2, 1) := by decide +kernel
theorem d_X_wouldFail_8 : decode c_X_wouldFail 8 = .ok (.iconst 0, 1) := by decide +kernel
theorem d_X_wouldFail_9 : decode c_X_wouldFail 9 = .ok (.invokevirtual 150, 3) := by decide +kernel
theorem d_X_wouldFail_12 : decode c_X_wouldFail 12 = .ok (.lstore 4, 2) := by decide +kernel
theorem d_X_wouldFail_14 : decode c_X_wouldFail 14 = .ok (.aload_n 0, 1) := by decide +kernel
theorem d_X_wouldFail_15 : decode c_X_wouldFail 15 = .ok (.iload_n 3, 1) := by decide +kernel
theorem d_X_wouldFail_16 : decode c_X_wouldFail 16 = .ok (.invokevirtual 158, 3) := by decide +kernel
theorem d_X_wouldFail_19 : decode c_X_wouldFail 19 = .ok (.lload 4, 2) := by decide +kernel
theorem d_X_wouldFail_21 : decode c_X_wouldFail 21 = .ok (.invokestatic 154, 3) := by decide +kernel
theorem d_X_wouldFail_24 : decode c_X_wouldFail 24 = .ok (.ireturn, 1) := by decide +kernel
theorem d_X_isError_0 : decode c_X_isError 0 = .ok (.lload_n 0, 1) := by decide +kernel
theorem d_X_isError_1 : decode c_X_isError 1 = .ok (.lconst 0, 1) := by decide +kernel
theorem d_X_isError_2 : decode c_X_isError 2 = .ok (.lcmp, 1) := by decide +kernel
theorem d_X_isError_3 : decode c_X_isError 3 = .ok (.ifCond .ge 7, 3) := by decide +kernel
theorem d_X_isError_6 : decode c_X_isError 6 = .ok (.iconst 1, 1) := by decide +kernel
theorem d_X_isError_7 : decode c_X_isError 7 = .ok (.goto 4, 3) := by decide +kernel
theorem d_X_isError_10 : decode c_X_isError 10 = .ok (.iconst 0, 1) := by decide +kernel
theorem d_X_isError_11 : decode c_X_isError 11 = .ok (.ireturn, 1) := by decide +kernel
theorem d_X_unmakeFrom_0 : decode c_X_unmakeFrom 0 = .ok (.aload_n 0, 1) := by decide +kernel
theorem d_X_unmakeFrom_1 : decode c_X_unmakeFrom 1 = .ok (.getfield 19, 3) := by decide +kernel
theorem d_X_unmakeFrom_4 : decode c_X_unmakeFrom 4 = .ok (.astore_n 2, 1) := by decide +kernel
theorem d_X_unmakeFrom_5 : decode c_X_unmakeFrom 5 = .ok (.aload_n 2, 1) := by decide +kernel
theorem d_X_unmakeFrom_6 : decode c_X_unmakeFrom 6 = .ok (.arraylength, 1) := by decide +kernel
theorem d_X_unmakeFrom_7 : decode c_X_unmakeFrom 7 = .ok (.istore_n 3, 1) := by decide +kernel
theorem d_X_unmakeFrom_8 : decode c_X_unmakeFrom 8 = .ok (.iconst 0, 1) := by decide +kernel
theorem d_X_unmakeFrom_9 : decode c_X_unmakeFrom 9 = .ok (.istore 4, 2) := by decide +kernel
theorem d_X_unmakeFrom_11 : decode c_X_unmakeFrom 11 = .ok (.iload 4, 2) := by decide +kernel
theorem d_X_unmakeFrom_13 : decode c_X_unmakeFrom 13 = .ok (.iload_n 3, 1) := by decide +kernel
theorem d_X_unmakeFrom_14 : decode c_X_unmakeFrom 14 = .ok (.if_icmp .ge 35, 3) := by decide +kernel
theorem d_X_unmakeFrom_17 : decode c_X_unmakeFrom 17 = .ok (.aload_n 2, 1) := by decide +kernel
theorem d_X_unmakeFrom_18 : decode c_X_unmakeFrom 18 = .ok (.iload 4, 2) := by decide +kernel
theorem d_X_unmakeFrom_20 : decode c_X_unmakeFrom 20 = .ok (.aaload, 1) := by decide +kernel
theorem d_X_unmakeFrom_21 : decode c_X_unmakeFrom 21 = .ok (.astore 5, 2) := by decide +kernel
theorem d_X_unmakeFrom_23 : decode c_X_unmakeFrom 23 = .ok (.aload 5, 2) := by decide +kernel
theorem d_X_unmakeFrom_25 : decode c_X_unmakeFrom 25 = .ok (.ifnull 18, 3) := by decide +kernel
theorem d_X_unmakeFrom_28 : decode c_X_unmakeFrom 28 = .ok (.aload 5, 2) := by decide +kernel
theorem d_X_unmakeFrom_30 : decode c_X_unmakeFrom 30 = .ok (.getfield 91, 3) := by decide +kernel
theorem d_X_unmakeFrom_33 : decode c_X_unmakeFrom 33 = .ok (.iload_n 1, 1) := by decide +kernel
theorem d_X_unmakeFrom_34 : decode c_X_unmakeFrom 34 = .ok (.if_icmp .lt 9, 3) := by decide +kernel
theorem d_X_unmakeFrom_37 : decode c_X_unmakeFrom 37 = .ok (.aload 5, 2) := by decide +kernel
theorem d_X_unmakeFrom_39 : decode c_X_unmakeFrom 39 = .ok (.iconst (-1), 1) := by decide +kernel
theorem d_X_unmakeFrom_40 : decode c_X_unmakeFrom 40 = .ok (.putfield 91, 3) := by decide +kernel
theorem d_X_unmakeFrom_43 : decode c_X_unmakeFrom 43 = .ok (.iinc 4 1, 3) := by decide +kernel
theorem d_X_unmakeFrom_46 : decode c_X_unmakeFrom 46 = .ok (.goto (-35), 3) := by decide +kernel
theorem d_X_unmakeFrom_49 : decode c_X_unmakeFrom 49 = .ok (.aload_n 0, 1) := by decide +kernel
theorem d_X_unmakeFrom_50 : decode c_X_unmakeFrom 50 = .ok (.iload_n 1, 1) := by decide +kernel
theorem d_X_unmakeFrom_51 : decode c_X_unmakeFrom 51 = .ok (.putfield 143, 3) := by decide +kernel
theorem d_X_unmakeFrom_54 : decode c_X_unmakeFrom 54 = .ok (.return_, 1) := by decide +kernel
theorem d_X_obtain_0 : decode c_X_obtain 0 = .ok (.aload_n 0, 1) := by decide +kernel
theorem d_X_obtain_1 : decode c_X_obtain 1 = .ok (.iload_n 1, 1) := by decide +kernel
theorem d_X_obtain_2 : decode c_X_obtain 2 = .ok (.iload_n 2, 1) := by decide +kernel
theorem d_X_obtain_3 : decode c_X_obtain 3 = .ok (.invokevirtual 124, 3) := by decide +kernel
theorem d_X_obtain_6 : decode c_X_obtain 6 = .ok (.astore 4, 2) := by decide +kernel
theorem d_X_obtain_8 : decode c_X_obtain 8 = .ok (.aload 4, 2) := by decide +kernel
theorem d_X_obtain_10 : decode c_X_obtain 10 = .ok (.ifnonnull 7, 3) := by decide +kernel
theorem d_X_obtain_13 : decode c_X_obtain 13 = .ok (.ldc2_w 162, 3) := by decide +kernel
theorem d_X_obtain_16 : decode c_X_obtain 16 = .ok (.lreturn, 1) := by decide +kernel
theorem d_X_obtain_17 : decode c_X_obtain 17 = .ok (.aload 4, 2) := by decide +kernel
theorem d_X_obtain_19 : decode c_X_obtain 19 = .ok (.getfield 164, 3) := by decide +kernel
theorem d_X_obtain_22 : decode c_X_obtain 22 = .ok (.getstatic 62, 3) := by decide +kernel
theorem d_X_obtain_25 : decode c_X_obtain 25 = .ok (.if_acmp .ne 14, 3) := by decide +kernel
theorem d_X_obtain_28 : decode c_X_obtain 28 = .ok (.ldc2_w 167, 3) := by decide +kernel
theorem d_X_obtain_31 : decode c_X_obtain 31 = .ok (.aload 4, 2) := by decide +kernel
theorem d_X_obtain_33 : decode c_X_obtain 33 = .ok (.getfield 169, 3) := by decide +kernel
theorem d_X_obtain_36 : decode c_X_obtain 36 = .ok (.i2l, 1) := by decide +kernel
theorem d_X_obtain_37 : decode c_X_obtain 37 = .ok (.ladd, 1) := by decide +kernel
theorem d_X_obtain_38 : decode c_X_obtain 38 = .ok (.lreturn, 1) := by decide +kernel
theorem d_X_obtain_39 : decode c_X_obtain 39 = .ok (.aload 4, 2) := by decide +kernel
theorem d_X_obtain_41 : decode c_X_obtain 41 = .ok (.getfield 91, 3) := by decide +kernel
theorem d_X_obtain_44 : decode c_X_obtain 44 = .ok (.iconst (-1), 1) := by decide +kernel
theorem d_X_obtain_45 : decode c_X_obtain 45 = .ok (.if_icmp .eq 10, 3) := by decide +kernel
theorem d_X_obtain_48 : decode c_X_obtain 48 = .ok (.aload 4, 2) := by decide +kernel
theorem d_X_obtain_50 : decode c_X_obtain 50 = .ok (.getfield 91, 3) := by decide +kernel
theorem d_X_obtain_53 : decode c_X_obtain 53 = .ok (.i2l, 1) := by decide +kernel
theorem d_X_obtain_54 : decode c_X_obtain 54 = .ok (.lreturn, 1) := by decide +kernel
theorem d_X_obtain_55 : decode c_X_obtain 55 = .ok (.aload 4, 2) := by decide +kernel
theorem d_X_obtain_57 : decode c_X_obtain 57 = .ok (.getfield 172, 3) := by decide +kernel
theorem d_X_obtain_60 : decode c_X_obtain 60 = .ok (.ifCond .ne 9, 3) := by decide +kernel
theorem d_X_obtain_63 : decode c_X_obtain 63 = .ok (.iload_n 3, 1) := by decide +kernel
theorem d_X_obtain_64 : decode c_X_obtain 64 = .ok (.bipush 36, 2) := by decide +kernel
theorem d_X_obtain_66 : decode c_X_obtain 66 = .ok (.if_icmp .lt 7, 3) := by decide +kernel
theorem d_X_obtain_69 : decode c_X_obtain 69 = .ok (.ldc2_w 175, 3) := by decide +kernel
theorem d_X_obtain_72 : decode c_X_obtain 72 = .ok (.lreturn, 1) := by decide +kernel
theorem d_X_obtain_73 : decode c_X_obtain 73 = .ok (.aload 4, 2) := by decide +kernel
theorem d_X_obtain_75 : decode c_X_obtain 75 = .ok (.iconst 1, 1) := by decide +kernel
theorem d_X_obtain_76 : decode c_X_obtain 76 = .ok (.putfield 172, 3) := by decide +kernel
theorem d_X_obtain_79 : decode c_X_obtain 79 = .ok (.aload 4, 2) := by decide +kernel
theorem d_X_obtain_81 : decode c_X_obtain 81 = .ok (.getfield 164, 3) := by decide +kernel
theorem d_X_obtain_84 : decode c_X_obtain 84 = .ok (.getstatic 71, 3) := by decide +kernel
theorem d_X_obtain_87 : decode c_X_obtain 87 = .ok (.if_acmp .ne 28, 3) := by decide +kernel
theorem d_X_obtain_90 : decode c_X_obtain 90 = .ok (.aload_n 0, 1) := by decide +kernel
theorem d_X_obtain_91 : decode c_X_obtain 91 = .ok (.aload 4, 2) := by decide +kernel
theorem d_X_obtain_93 : decode c_X_obtain 93 = .ok (.getfield 115, 3) := by decide +kernel
theorem d_X_obtain_96 : decode c_X_obtain 96 = .ok (.aload 4, 2) := by decide +kernel
theorem d_X_obtain_98 : decode c_X_obtain 98 = .ok (.getfield 108, 3) := by decide +kernel
theorem d_X_obtain_101 : decode c_X_obtain 101 = .ok (.getfield 118, 3) := by decide +kernel
theorem d_X_obtain_104 : decode c_X_obtain 104 = .ok (.iconst 0, 1) := by decide +kernel
theorem d_X_obtain_105 : decode c_X_obtain 105 = .ok (.iaload, 1) := by decide +kernel
theorem d_X_obtain_106 : decode c_X_obtain 106 = .ok (.iload_n 3, 1) := by decide +kernel
theorem d_X_obtain_107 : decode c_X_obtain 107 = .ok (.iconst 1, 1) := by decide +kernel
theorem d_X_obtain_108 : decode c_X_obtain 108 = .ok (.iadd, 1) := by decide +kernel
theorem d_X_obtain_109 : decode c_X_obtain 109 = .ok (.invokevirtual 150, 3) := by decide +kernel
theorem d_X_obtain_112 : decode c_X_obtain 112 = .ok (.goto 10, 3) := by decide +kernel
theorem d_X_obtain_115 : decode c_X_obtain 115 = .ok (.aload_n 0, 1) := by decide +kernel
theorem d_X_obtain_116 : decode c_X_obtain 116 = .ok (.aload 4, 2) := by decide +kernel
theorem d_X_obtain_118 : decode c_X_obtain 118 = .ok (.iload_n 3, 1) := by decide +kernel
theorem d_X_obtain_119 : decode c_X_obtain 119 = .ok (.invokevirtual 177, 3) := by decide +kernel
theorem d_X_obtain_122 : decode c_X_obtain 122 = .ok (.lstore 5, 2) := by decide +kernel
theorem d_X_obtain_124 : decode c_X_obtain 124 = .ok (.aload 4, 2) := by decide +kernel
theorem d_X_obtain_126 : decode c_X_obtain 126 = .ok (.iconst 0, 1) := by decide +kernel
theorem d_X_obtain_127 : decode c_X_obtain 127 = .ok (.putfield 172, 3) := by decide +kernel
theorem d_X_obtain_130 : decode c_X_obtain 130 = .ok (.lload 5, 2) := by decide +kernel
theorem d_X_obtain_132 : decode c_X_obtain 132 = .ok (.lreturn, 1) := by decide +kernel
theorem d_X_obtainNew_0 : decode c_X_obtainNew 0 = .ok (.aload_n 1, 1) := by decide +kernel
theorem d_X_obtainNew_1 : decode c_X_obtainNew 1 = .ok (.getfield 88, 3) := by decide +kernel
theorem d_X_obtainNew_4 : decode c_X_obtainNew 4 = .ok (.iconst 2, 1) := by decide +kernel
theorem d_X_obtainNew_5 : decode c_X_obtainNew 5 = .ok (.if_icmp .ne 14, 3) := by decide +kernel
theorem d_X_obtainNew_8 : decode c_X_obtainNew 8 = .ok (.aload_n 0, 1) := by decide +kernel
theorem d_X_obtainNew_9 : decode c_X_obtainNew 9 = .ok (.getfield 80, 3) := by decide +kernel
theorem d_X_obtainNew_12 : decode c_X_obtainNew 12 = .ok (.ifCond .ne 7, 3) := by decide +kernel
theorem d_X_obtainNew_15 : decode c_X_obtainNew 15 = .ok (.ldc2_w 181, 3) := by decide +kernel
theorem d_X_obtainNew_18 : decode c_X_obtainNew 18 = .ok (.lreturn, 1) := by decide +kernel
theorem d_X_obtainNew_19 : decode c_X_obtainNew 19 = .ok (.aload_n 1, 1) := by decide +kernel
theorem d_X_obtainNew_20 : decode c_X_obtainNew 20 = .ok (.getfield 108, 3) := by decide +kernel
theorem d_X_obtainNew_23 : decode c_X_obtainNew 23 = .ok (.astore_n 3, 1) := by decide +kernel
theorem d_X_obtainNew_24 : decode c_X_obtainNew 24 = .ok (.aload_n 1, 1) := by decide +kernel
theorem d_X_obtainNew_25 : decode c_X_obtainNew 25 = .ok (.getfield 115, 3) := by decide +kernel
theorem d_X_obtainNew_28 : decode c_X_obtainNew 28 = .ok (.aload_n 1, 1) := by decide +kernel
theorem d_X_obtainNew_29 : decode c_X_obtainNew 29 = .ok (.getfield 121, 3) := by decide +kernel
theorem d_X_obtainNew_32 : decode c_X_obtainNew 32 = .ok (.invokestatic 58, 3) := by decide +kernel
theorem d_X_obtainNew_35 : decode c_X_obtainNew 35 = .ok (.iconst 4, 1) := by decide +kernel
theorem d_X_obtainNew_36 : decode c_X_obtainNew 36 = .ok (.imul, 1) := by decide +kernel
theorem d_X_obtainNew_37 : decode c_X_obtainNew 37 = .ok (.istore 4, 2) := by decide +kernel
theorem d_X_obtainNew_39 : decode c_X_obtainNew 39 = .ok (.iconst 0, 1) := by decide +kernel
theorem d_X_obtainNew_40 : decode c_X_obtainNew 40 = .ok (.istore 5, 2) := by decide +kernel
theorem d_X_obtainNew_42 : decode c_X_obtainNew 42 = .ok (.iload 5, 2) := by decide +kernel
theorem d_X_obtainNew_44 : decode c_X_obtainNew 44 = .ok (.aload_n 3, 1) := by decide +kernel
theorem d_X_obtainNew_45 : decode c_X_obtainNew 45 = .ok (.getfield 47, 3) := by decide +kernel
theorem d_X_obtainNew_48 : decode c_X_obtainNew 48 = .ok (.if_icmp .ge 79, 3) := by decide +kernel
theorem d_X_obtainNew_51 : decode c_X_obtainNew 51 = .ok (.aload_n 3, 1) := by decide +kernel
theorem d_X_obtainNew_52 : decode c_X_obtainNew 52 = .ok (.getfield 111, 3) := by decide +kernel
theorem d_X_obtainNew_55 : decode c_X_obtainNew 55 = .ok (.iload 5, 2) := by decide +kernel
theorem d_X_obtainNew_57 : decode c_X_obtainNew 57 = .ok (.baload, 1) := by decide +kernel
theorem d_X_obtainNew_58 : decode c_X_obtainNew 58 = .ok (.ifCond .eq 20, 3) := by decide +kernel
theorem d_X_obtainNew_61 : decode c_X_obtainNew 61 = .ok (.aload_n 1, 1) := by decide +kernel
theorem d_X_obtainNew_62 : decode c_X_obtainNew 62 = .ok (.getfield 115, 3) := by decide +kernel
theorem d_X_obtainNew_65 : decode c_X_obtainNew 65 = .ok (.aload_n 3, 1) := by decide +kernel
theorem d_X_obtainNew_66 : decode c_X_obtainNew 66 = .ok (.getfield 118, 3) := by decide +kernel
theorem d_X_obtainNew_69 : decode c_X_obtainNew 69 = .ok (.iload 5, 2) := by decide +kernel
theorem d_X_obtainNew_71 : decode c_X_obtainNew 71 = .ok (.iaload, 1) := by decide +kernel
theorem d_X_obtainNew_72 : decode c_X_obtainNew 72 = .ok (.invokestatic 183, 3) := by decide +kernel
theorem d_X_obtainNew_75 : decode c_X_obtainNew 75 = .ok (.goto 21, 3) := by decide +kernel
theorem d_X_obtainNew_78 : decode c_X_obtainNew 78 = .ok (.aload_n 0, 1) := by decide +kernel
theorem d_X_obtainNew_79 : decode c_X_obtainNew 79 = .ok (.aload_n 1, 1) := by decide +kernel
theorem d_X_obtainNew_80 : decode c_X_obtainNew 80 = .ok (.getfield 115, 3) := by decide +kernel
theorem d_X_obtainNew_83 : decode c_X_obtainNew 83 = .ok (.aload_n 3, 1) := by decide +kernel
theorem d_X_obtainNew_84 : decode c_X_obtainNew 84 = .ok (.getfield 118, 3) := by decide +kernel
theorem d_X_obtainNew_87 : decode c_X_obtainNew 87 = .ok (.iload 5, 2) := by decide +kernel
theorem d_X_obtainNew_89 : decode c_X_obtainNew 89 = .ok (.iaload, 1) := by decide +kernel
theorem d_X_obtainNew_90 : decode c_X_obtainNew 90 = .ok (.iload_n 2, 1) := by decide +kernel
theorem d_X_obtainNew_91 : decode c_X_obtainNew 91 = .ok (.iconst 1, 1) := by decide +kernel
theorem d_X_obtainNew_92 : decode c_X_obtainNew 92 = .ok (.iadd, 1) := by decide +kernel
theorem d_X_obtainNew_93 : decode c_X_obtainNew 93 = .ok (.invokevirtual 150, 3) := by decide +kernel
theorem d_X_obtainNew_96 : decode c_X_obtainNew 96 = .ok (.lstore 6, 2) := by decide +kernel
theorem d_X_obtainNew_98 : decode c_X_obtainNew 98 = .ok (.lload 6, 2) := by decide +kernel
theorem d_X_obtainNew_100 : decode c_X_obtainNew 100 = .ok (.invokestatic 154, 3) := by decide +kernel
theorem d_X_obtainNew_103 : decode c_X_obtainNew 103 = .ok (.ifCond .eq 6, 3) := by decide +kernel
theorem d_X_obtainNew_106 : decode c_X_obtainNew 106 = .ok (.lload 6, 2) := by decide +kernel
theorem d_X_obtainNew_108 : decode c_X_obtainNew 108 = .ok (.lreturn, 1) := by decide +kernel
theorem d_X_obtainNew_109 : decode c_X_obtainNew 109 = .ok (.aload_n 0, 1) := by decide +kernel
theorem d_X_obtainNew_110 : decode c_X_obtainNew 110 = .ok (.getfield 30, 3) := by decide +kernel
theorem d_X_obtainNew_113 : decode c_X_obtainNew 113 = .ok (.iload 4, 2) := by decide +kernel
theorem d_X_obtainNew_115 : decode c_X_obtainNew 115 = .ok (.iload 5, 2) := by decide +kernel
theorem d_X_obtainNew_117 : decode c_X_obtainNew 117 = .ok (.iadd, 1) := by decide +kernel
theorem d_X_obtainNew_118 : decode c_X_obtainNew 118 = .ok (.lload 6, 2) := by decide +kernel
theorem d_X_obtainNew_120 : decode c_X_obtainNew 120 = .ok (.lastore, 1) := by decide +kernel
theorem d_X_obtainNew_121 : decode c_X_obtainNew 121 = .ok (.iinc 5 1, 3) := by decide +kernel
theorem d_X_obtainNew_124 : decode c_X_obtainNew 124 = .ok (.goto (-82), 3) := by decide +kernel
theorem d_X_obtainNew_127 : decode c_X_obtainNew 127 = .ok (.aload_n 0, 1) := by decide +kernel
theorem d_X_obtainNew_128 : decode c_X_obtainNew 128 = .ok (.getfield 143, 3) := by decide +kernel
theorem d_X_obtainNew_131 : decode c_X_obtainNew 131 = .ok (.bipush 100, 2) := by decide +kernel
theorem d_X_obtainNew_133 : decode c_X_obtainNew 133 = .ok (.if_icmp .lt 9, 3) := by decide +kernel
theorem d_X_obtainNew_136 : decode c_X_obtainNew 136 = .ok (.ldc2_w 186, 3) := by decide +kernel
theorem d_X_obtainNew_139 : decode c_X_obtainNew 139 = .ok (.goto 11, 3) := by decide +kernel
theorem d_X_obtainNew_142 : decode c_X_obtainNew 142 = .ok (.aload_n 0, 1) := by decide +kernel
theorem d_X_obtainNew_143 : decode c_X_obtainNew 143 = .ok (.aload_n 1, 1) := by decide +kernel
theorem d_X_obtainNew_144 : decode c_X_obtainNew 144 = .ok (.iload 4, 2) := by decide +kernel
theorem d_X_obtainNew_146 : decode c_X_obtainNew 146 = .ok (.invokevirtual 188, 3) := by decide +kernel
theorem d_X_obtainNew_149 : decode c_X_obtainNew 149 = .ok (.i2l, 1) := by decide +kernel
theorem d_X_obtainNew_150 : decode c_X_obtainNew 150 = .ok (.lreturn, 1) := by decide +kernel
theorem d_X_makeInstance_0 : decode c_X_makeInstance 0 = .ok (.aload_n 0, 1) := by decide +kernel
theorem d_X_makeInstance_1 : decode c_X_makeInstance 1 = .ok (.getfield 143, 3) := by decide +kernel
theorem d_X_makeInstance_4 : decode c_X_makeInstance 4 = .ok (.istore_n 3, 1) := by decide +kernel
theorem d_X_makeInstance_5 : decode c_X_makeInstance 5 = .ok (.aload_n 0, 1) := by decide +kernel
theorem d_X_makeInstance_6 : decode c_X_makeInstance 6 = .ok (.dup, 1) := by decide +kernel
theorem d_X_makeInstance_7 : decode c_X_makeInstance 7 = .ok (.getfield 143, 3) := by decide +kernel
theorem d_X_makeInstance_10 : decode c_X_makeInstance 10 = .ok (.iconst 1, 1) := by decide +kernel
theorem d_X_makeInstance_11 : decode c_X_makeInstance 11 = .ok (.iadd, 1) := by decide +kernel
theorem d_X_makeInstance_12 : decode c_X_makeInstance 12 = .ok (.putfield 143, 3) := by decide +kernel
theorem d_X_makeInstance_15 : decode c_X_makeInstance 15 = .ok (.aload_n 0, 1) := by decide +kernel
theorem d_X_makeInstance_16 : decode c_X_makeInstance 16 = .ok (.getfield 23, 3) := by decide +kernel
theorem d_X_makeInstance_19 : decode c_X_makeInstance 19 = .ok (.iload_n 3, 1) := by decide +kernel
theorem d_X_makeInstance_20 : decode c_X_makeInstance 20 = .ok (.aload_n 1, 1) := by decide +kernel
theorem d_X_makeInstance_21 : decode c_X_makeInstance 21 = .ok (.aastore, 1) := by decide +kernel
theorem d_X_makeInstance_22 : decode c_X_makeInstance 22 = .ok (.aload_n 0, 1) := by decide +kernel
theorem d_X_makeInstance_23 : decode c_X_makeInstance 23 = .ok (.getfield 30, 3) := by decide +kernel
theorem d_X_makeInstance_26 : decode c_X_makeInstance 26 = .ok (.iload_n 2, 1) := by decide +kernel
theorem d_X_makeInstance_27 : decode c_X_makeInstance 27 = .ok (.aload_n 0, 1) := by decide +kernel
theorem d_X_makeInstance_28 : decode c_X_makeInstance 28 = .ok (.getfield 26, 3) := by decide +kernel
theorem d_X_makeInstance_31 : decode c_X_makeInstance 31 = .ok (.iload_n 3, 1) := by decide +kernel
theorem d_X_makeInstance_32 : decode c_X_makeInstance 32 = .ok (.iconst 4, 1) := by decide +kernel
theorem d_X_makeInstance_33 : decode c_X_makeInstance 33 = .ok (.imul, 1) := by decide +kernel
theorem d_X_makeInstance_34 : decode c_X_makeInstance 34 = .ok (.iconst 4, 1) := by decide +kernel
theorem d_X_makeInstance_35 : decode c_X_makeInstance 35 = .ok (.invokestatic 192, 3) := by decide +kernel
theorem d_X_makeInstance_38 : decode c_X_makeInstance 38 = .ok (.aload_n 1, 1) := by decide +kernel
theorem d_X_makeInstance_39 : decode c_X_makeInstance 39 = .ok (.getfield 88, 3) := by decide +kernel
theorem d_X_makeInstance_42 : decode c_X_makeInstance 42 = .ok (.ifCond .eq 8, 3) := by decide +kernel
theorem d_X_makeInstance_45 : decode c_X_makeInstance 45 = .ok (.aload_n 1, 1) := by decide +kernel
theorem d_X_makeInstance_46 : decode c_X_makeInstance 46 = .ok (.iload_n 3, 1) := by decide +kernel
theorem d_X_makeInstance_47 : decode c_X_makeInstance 47 = .ok (.putfield 91, 3) := by decide +kernel
theorem d_X_makeInstance_50 : decode c_X_makeInstance 50 = .ok (.iload_n 3, 1) := by decide +kernel
theorem d_X_makeInstance_51 : decode c_X_makeInstance 51 = .ok (.ireturn, 1) := by decide +kernel
theorem d_X_handleOf_0 : decode c_X_handleOf 0 = .ok (.ldc2_w 198, 3) := by decide +kernel
theorem d_X_handleOf_3 : decode c_X_handleOf 3 = .ok (.bipush 16, 2) := by decide +kernel
theorem d_X_handleOf_5 : decode c_X_handleOf 5 = .ok (.iload_n 0, 1) := by decide +kernel
theorem d_X_handleOf_6 : decode c_X_handleOf 6 = .ok (.imul, 1) := by decide +kernel
theorem d_X_handleOf_7 : decode c_X_handleOf 7 = .ok (.i2l, 1) := by decide +kernel
theorem d_X_handleOf_8 : decode c_X_handleOf 8 = .ok (.ladd, 1) := by decide +kernel
theorem d_X_handleOf_9 : decode c_X_handleOf 9 = .ok (.iload_n 1, 1) := by decide +kernel
theorem d_X_handleOf_10 : decode c_X_handleOf 10 = .ok (.i2l, 1) := by decide +kernel
theorem d_X_handleOf_11 : decode c_X_handleOf 11 = .ok (.ladd, 1) := by decide +kernel
theorem d_X_handleOf_12 : decode c_X_handleOf 12 = .ok (.lreturn, 1) := by decide +kernel
theorem d_X_nextPairs_0 : decode c_X_nextPairs 0 = .ok (.aload_n 0, 1) := by decide +kernel
theorem d_X_nextPairs_1 : decode c_X_nextPairs 1 = .ok (.iload_n 1, 1) := by decide +kernel
theorem d_X_nextPairs_2 : decode c_X_nextPairs 2 = .ok (.iload_n 2, 1) := by decide +kernel
theorem d_X_nextPairs_3 : decode c_X_nextPairs 3 = .ok (.invokevirtual 124, 3) := by decide +kernel
theorem d_X_nextPairs_6 : decode c_X_nextPairs 6 = .ok (.astore_n 3, 1) := by decide +kernel
theorem d_X_nextPairs_7 : decode c_X_nextPairs 7 = .ok (.aload_n 3, 1) := by decide +kernel
theorem d_X_nextPairs_8 : decode c_X_nextPairs 8 = .ok (.ifnonnull 5, 3) := by decide +kernel
theorem d_X_nextPairs_11 : decode c_X_nextPairs 11 = .ok (.lconst 0, 1) := by decide +kernel
theorem d_X_nextPairs_12 : decode c_X_nextPairs 12 = .ok (.lreturn, 1) := by decide +kernel
theorem d_X_nextPairs_13 : decode c_X_nextPairs 13 = .ok (.lconst 0, 1) := by decide +kernel
theorem d_X_nextPairs_14 : decode c_X_nextPairs 14 = .ok (.lstore 4, 2) := by decide +kernel
theorem d_X_nextPairs_16 : decode c_X_nextPairs 16 = .ok (.iconst 0, 1) := by decide +kernel
theorem d_X_nextPairs_17 : decode c_X_nextPairs 17 = .ok (.istore 6, 2) := by decide +kernel
theorem d_X_nextPairs_19 : decode c_X_nextPairs 19 = .ok (.iload 6, 2) := by decide +kernel
theorem d_X_nextPairs_21 : decode c_X_nextPairs 21 = .ok (.aload_n 3, 1) := by decide +kernel
theorem d_X_nextPairs_22 : decode c_X_nextPairs 22 = .ok (.getfield 108, 3) := by decide +kernel
theorem d_X_nextPairs_25 : decode c_X_nextPairs 25 = .ok (.getfield 47, 3) := by decide +kernel
theorem d_X_nextPairs_28 : decode c_X_nextPairs 28 = .ok (.if_icmp .ge 33, 3) := by decide +kernel
theorem d_X_nextPairs_31 : decode c_X_nextPairs 31 = .ok (.lload 4, 2) := by decide +kernel
theorem d_X_nextPairs_33 : decode c_X_nextPairs 33 = .ok (.lconst 1, 1) := by decide +kernel
theorem d_X_nextPairs_34 : decode c_X_nextPairs 34 = .ok (.aload_n 3, 1) := by decide +kernel
theorem d_X_nextPairs_35 : decode c_X_nextPairs 35 = .ok (.getfield 115, 3) := by decide +kernel
theorem d_X_nextPairs_38 : decode c_X_nextPairs 38 = .ok (.aload_n 3, 1) := by decide +kernel
theorem d_X_nextPairs_39 : decode c_X_nextPairs 39 = .ok (.getfield 108, 3) := by decide +kernel
theorem d_X_nextPairs_42 : decode c_X_nextPairs 42 = .ok (.getfield 118, 3) := by decide +kernel
theorem d_X_nextPairs_45 : decode c_X_nextPairs 45 = .ok (.iload 6, 2) := by decide +kernel
theorem d_X_nextPairs_47 : decode c_X_nextPairs 47 = .ok (.iaload, 1) := by decide +kernel
theorem d_X_nextPairs_48 : decode c_X_nextPairs 48 = .ok (.invokestatic 58, 3) := by decide +kernel
theorem d_X_nextPairs_51 : decode c_X_nextPairs 51 = .ok (.lshl, 1) := by decide +kernel
theorem d_X_nextPairs_52 : decode c_X_nextPairs 52 = .ok (.lor, 1) := by decide +kernel
theorem d_X_nextPairs_53 : decode c_X_nextPairs 53 = .ok (.lstore 4, 2) := by decide +kernel
theorem d_X_nextPairs_55 : decode c_X_nextPairs 55 = .ok (.iinc 6 1, 3) := by decide +kernel
theorem d_X_nextPairs_58 : decode c_X_nextPairs 58 = .ok (.goto (-39), 3) := by decide +kernel
theorem d_X_nextPairs_61 : decode c_X_nextPairs 61 = .ok (.lload 4, 2) := by decide +kernel
theorem d_X_nextPairs_63 : decode c_X_nextPairs 63 = .ok (.lreturn, 1) := by decide +kernel
theorem d_X_keysOf_0 : decode c_X_keysOf 0 = .ok (.lconst 0, 1) := by decide +kernel
theorem d_X_keysOf_1 : decode c_X_keysOf 1 = .ok (.lstore_n 2, 1) := by decide +kernel
theorem d_X_keysOf_2 : decode c_X_keysOf 2 = .ok (.iconst 0, 1) := by decide +kernel
theorem d_X_keysOf_3 : decode c_X_keysOf 3 = .ok (.istore 4, 2) := by decide +kernel
theorem d_X_keysOf_5 : decode c_X_keysOf 5 = .ok (.iload 4, 2) := by decide +kernel
theorem d_X_keysOf_7 : decode c_X_keysOf 7 = .ok (.iconst 3, 1) := by decide +kernel
theorem d_X_keysOf_8 : decode c_X_keysOf 8 = .ok (.if_icmp .ge 20, 3) := by decide +kernel
theorem d_X_keysOf_11 : decode c_X_keysOf 11 = .ok (.lload_n 2, 1) := by decide +kernel
theorem d_X_keysOf_12 : decode c_X_keysOf 12 = .ok (.lload_n 0, 1) := by decide +kernel
theorem d_X_keysOf_13 : decode c_X_keysOf 13 = .ok (.iload 4, 2) := by decide +kernel
theorem d_X_keysOf_15 : decode c_X_keysOf 15 = .ok (.iconst 0, 1) := by decide +kernel
theorem d_X_keysOf_16 : decode c_X_keysOf 16 = .ok (.invokestatic 58, 3) := by decide +kernel
theorem d_X_keysOf_19 : decode c_X_keysOf 19 = .ok (.lushr, 1) := by decide +kernel
theorem d_X_keysOf_20 : decode c_X_keysOf 20 = .ok (.lor, 1) := by decide +kernel
theorem d_X_keysOf_21 : decode c_X_keysOf 21 = .ok (.lstore_n 2, 1) := by decide +kernel
theorem d_X_keysOf_22 : decode c_X_keysOf 22 = .ok (.iinc 4 1, 3) := by decide +kernel
theorem d_X_keysOf_25 : decode c_X_keysOf 25 = .ok (.goto (-20), 3) := by decide +kernel
theorem d_X_keysOf_28 : decode c_X_keysOf 28 = .ok (.lload_n 2, 1) := by decide +kernel
theorem d_X_keysOf_29 : decode c_X_keysOf 29 = .ok (.l2i, 1) := by decide +kernel
theorem d_X_keysOf_30 : decode c_X_keysOf 30 = .ok (.sipush 4095, 3) := by decide +kernel
theorem d_X_keysOf_33 : decode c_X_keysOf 33 = .ok (.iand, 1) := by decide +kernel
theorem d_X_keysOf_34 : decode c_X_keysOf 34 = .ok (.ireturn, 1) := by decide +kernel
theorem d_X_countBindings_0 : decode c_X_countBindings 0 = .ok (.iconst 0, 1) := by decide +kernel
theorem d_X_countBindings_1 : decode c_X_countBindings 1 = .ok (.istore_n 1, 1) := by decide +kernel
theorem d_X_countBindings_2 : decode c_X_countBindings 2 = .ok (.aload_n 0, 1) := by decide +kernel
theorem d_X_countBindings_3 : decode c_X_countBindings 3 = .ok (.getfield 19, 3) := by decide +kernel
theorem d_X_countBindings_6 : decode c_X_countBindings 6 = .ok (.astore_n 2, 1) := by decide +kernel
theorem d_X_countBindings_7 : decode c_X_countBindings 7 = .ok (.aload_n 2, 1) := by decide +kernel
theorem d_X_countBindings_8 : decode c_X_countBindings 8 = .ok (.arraylength, 1) := by decide +kernel
theorem d_X_countBindings_9 : decode c_X_countBindings 9 = .ok (.istore_n 3, 1) := by decide +kernel
theorem d_X_countBindings_10 : decode c_X_countBindings 10 = .ok (.iconst 0, 1) := by decide +kernel
theorem d_X_countBindings_11 : decode c_X_countBindings 11 = .ok (.istore 4, 2) := by decide +kernel
theorem d_X_countBindings_13 : decode c_X_countBindings 13 = .ok (.iload 4, 2) := by decide +kernel
theorem d_X_countBindings_15 : decode c_X_countBindings 15 = .ok (.iload_n 3, 1) := by decide +kernel
theorem d_X_countBindings_16 : decode c_X_countBindings 16 = .ok (.if_icmp .ge 23, 3) := by decide +kernel
theorem d_X_countBindings_19 : decode c_X_countBindings 19 = .ok (.aload_n 2, 1) := by decide +kernel
theorem d_X_countBindings_20 : decode c_X_countBindings 20 = .ok (.iload 4, 2) := by decide +kernel
theorem d_X_countBindings_22 : decode c_X_countBindings 22 = .ok (.aaload, 1) := by decide +kernel
theorem d_X_countBindings_23 : decode c_X_countBindings 23 = .ok (.astore 5, 2) := by decide +kernel
theorem d_X_countBindings_25 : decode c_X_countBindings 25 = .ok (.aload 5, 2) := by decide +kernel
theorem d_X_countBindings_27 : decode c_X_countBindings 27 = .ok (.ifnull 6, 3) := by decide +kernel
theorem d_X_countBindings_30 : decode c_X_countBindings 30 = .ok (.iinc 1 1, 3) := by decide +kernel
theorem d_X_countBindings_33 : decode c_X_countBindings 33 = .ok (.iinc 4 1, 3) := by decide +kernel
theorem d_X_countBindings_36 : decode c_X_countBindings 36 = .ok (.goto (-23), 3) := by decide +kernel
theorem d_X_countBindings_39 : decode c_X_countBindings 39 = .ok (.iload_n 1, 1) := by decide +kernel
theorem d_X_countBindings_40 : decode c_X_countBindings 40 = .ok (.ireturn, 1) := by decide +kernel
theorem d_X_countKept_0 : decode c_X_countKept 0 = .ok (.iconst 0, 1) := by decide +kernel
theorem d_X_countKept_1 : decode c_X_countKept 1 = .ok (.istore_n 2, 1) := by decide +kernel
theorem d_X_countKept_2 : decode c_X_countKept 2 = .ok (.aload_n 0, 1) := by decide +kernel
theorem d_X_countKept_3 : decode c_X_countKept 3 = .ok (.getfield 19, 3) := by decide +kernel
theorem d_X_countKept_6 : decode c_X_countKept 6 = .ok (.astore_n 3, 1) := by decide +kernel
theorem d_X_countKept_7 : decode c_X_countKept 7 = .ok (.aload_n 3, 1) := by decide +kernel
theorem d_X_countKept_8 : decode c_X_countKept 8 = .ok (.arraylength, 1) := by decide +kernel
theorem d_X_countKept_9 : decode c_X_countKept 9 = .ok (.istore 4, 2) := by decide +kernel
theorem d_X_countKept_11 : decode c_X_countKept 11 = .ok (.iconst 0, 1) := by decide +kernel
theorem d_X_countKept_12 : decode c_X_countKept 12 = .ok (.istore 5, 2) := by decide +kernel
theorem d_X_countKept_14 : decode c_X_countKept 14 = .ok (.iload 5, 2) := by decide +kernel
theorem d_X_countKept_16 : decode c_X_countKept 16 = .ok (.iload 4, 2) := by decide +kernel
theorem d_X_countKept_18 : decode c_X_countKept 18 = .ok (.if_icmp .ge 41, 3) := by decide +kernel
theorem d_X_countKept_21 : decode c_X_countKept 21 = .ok (.aload_n 3, 1) := by decide +kernel
theorem d_X_countKept_22 : decode c_X_countKept 22 = .ok (.iload 5, 2) := by decide +kernel
theorem d_X_countKept_24 : decode c_X_countKept 24 = .ok (.aaload, 1) := by decide +kernel
theorem d_X_countKept_25 : decode c_X_countKept 25 = .ok (.astore 6, 2) := by decide +kernel
theorem d_X_countKept_27 : decode c_X_countKept 27 = .ok (.aload 6, 2) := by decide +kernel
theorem d_X_countKept_29 : decode c_X_countKept 29 = .ok (.ifnull 24, 3) := by decide +kernel
theorem d_X_countKept_32 : decode c_X_countKept 32 = .ok (.aload 6, 2) := by decide +kernel
theorem d_X_countKept_34 : decode c_X_countKept 34 = .ok (.getfield 88, 3) := by decide +kernel
theorem d_X_countKept_37 : decode c_X_countKept 37 = .ok (.iload_n 1, 1) := by decide +kernel
theorem d_X_countKept_38 : decode c_X_countKept 38 = .ok (.if_icmp .ne 15, 3) := by decide +kernel
theorem d_X_countKept_41 : decode c_X_countKept 41 = .ok (.aload 6, 2) := by decide +kernel
theorem d_X_countKept_43 : decode c_X_countKept 43 = .ok (.getfield 91, 3) := by decide +kernel
theorem d_X_countKept_46 : decode c_X_countKept 46 = .ok (.iconst (-1), 1) := by decide +kernel
theorem d_X_countKept_47 : decode c_X_countKept 47 = .ok (.if_icmp .eq 6, 3) := by decide +kernel
theorem d_X_countKept_50 : decode c_X_countKept 50 = .ok (.iinc 2 1, 3) := by decide +kernel
theorem d_X_countKept_53 : decode c_X_countKept 53 = .ok (.iinc 5 1, 3) := by decide +kernel
theorem d_X_countKept_56 : decode c_X_countKept 56 = .ok (.goto (-42), 3) := by decide +kernel
theorem d_X_countKept_59 : decode c_X_countKept 59 = .ok (.iload_n 2, 1) := by decide +kernel
theorem d_X_countKept_60 : decode c_X_countKept 60 = .ok (.ireturn, 1) := by decide +kernel
theorem d_B_init_0 : decode c_B_init 0 = .ok (.aload_n 0, 1) := by decide +kernel
theorem d_B_init_1 : decode c_B_init 1 = .ok (.invokespecial 3, 3) := by decide +kernel
theorem d_B_init_4 : decode c_B_init 4 = .ok (.aload_n 0, 1) := by decide +kernel
theorem d_B_init_5 : decode c_B_init 5 = .ok (.aload_n 1, 1) := by decide +kernel
theorem d_B_init_6 : decode c_B_init 6 = .ok (.putfield 9, 3) := by decide +kernel
theorem d_B_init_9 : decode c_B_init 9 = .ok (.aload_n 0, 1) := by decide +kernel
theorem d_B_init_10 : decode c_B_init 10 = .ok (.iload_n 2, 1) := by decide +kernel
theorem d_B_init_11 : decode c_B_init 11 = .ok (.putfield 15, 3) := by decide +kernel
theorem d_B_init_14 : decode c_B_init 14 = .ok (.aload_n 0, 1) := by decide +kernel
theorem d_B_init_15 : decode c_B_init 15 = .ok (.iload_n 3, 1) := by decide +kernel
theorem d_B_init_16 : decode c_B_init 16 = .ok (.putfield 19, 3) := by decide +kernel
theorem d_B_init_19 : decode c_B_init 19 = .ok (.aload_n 0, 1) := by decide +kernel
theorem d_B_init_20 : decode c_B_init 20 = .ok (.iload 4, 2) := by decide +kernel
theorem d_B_init_22 : decode c_B_init 22 = .ok (.putfield 22, 3) := by decide +kernel
theorem d_B_init_25 : decode c_B_init 25 = .ok (.aload_n 0, 1) := by decide +kernel
theorem d_B_init_26 : decode c_B_init 26 = .ok (.iload 5, 2) := by decide +kernel
theorem d_B_init_28 : decode c_B_init 28 = .ok (.putfield 25, 3) := by decide +kernel
theorem d_B_init_31 : decode c_B_init 31 = .ok (.aload_n 0, 1) := by decide +kernel
theorem d_B_init_32 : decode c_B_init 32 = .ok (.aload 6, 2) := by decide +kernel
theorem d_B_init_34 : decode c_B_init 34 = .ok (.putfield 28, 3) := by decide +kernel
theorem d_B_init_37 : decode c_B_init 37 = .ok (.aload_n 0, 1) := by decide +kernel
theorem d_B_init_38 : decode c_B_init 38 = .ok (.iconst (-1), 1) := by decide +kernel
theorem d_B_init_39 : decode c_B_init 39 = .ok (.putfield 32, 3) := by decide +kernel
theorem d_B_init_42 : decode c_B_init 42 = .ok (.return_, 1) := by decide +kernel
theorem d_N_init_0 : decode c_N_init 0 = .ok (.aload_n 0, 1) := by decide +kernel
theorem d_N_init_1 : decode c_N_init 1 = .ok (.invokespecial 3, 3) := by decide +kernel
theorem d_N_init_4 : decode c_N_init 4 = .ok (.aload_n 0, 1) := by decide +kernel
theorem d_N_init_5 : decode c_N_init 5 = .ok (.iconst 4, 1) := by decide +kernel
theorem d_N_init_6 : decode c_N_init 6 = .ok (.newarray .int, 2) := by decide +kernel
theorem d_N_init_8 : decode c_N_init 8 = .ok (.putfield 9, 3) := by decide +kernel
theorem d_N_init_11 : decode c_N_init 11 = .ok (.aload_n 0, 1) := by decide +kernel
theorem d_N_init_12 : decode c_N_init 12 = .ok (.iconst 4, 1) := by decide +kernel
theorem d_N_init_13 : decode c_N_init 13 = .ok (.newarray .boolean, 2) := by decide +kernel
theorem d_N_init_15 : decode c_N_init 15 = .ok (.putfield 15, 3) := by decide +kernel
theorem d_N_init_18 : decode c_N_init 18 = .ok (.return_, 1) := by decide +kernel
theorem d_N_append_0 : decode c_N_append 0 = .ok (.aload_n 0, 1) := by decide +kernel
theorem d_N_append_1 : decode c_N_append 1 = .ok (.getfield 19, 3) := by decide +kernel
theorem d_N_append_4 : decode c_N_append 4 = .ok (.iconst 4, 1) := by decide +kernel
theorem d_N_append_5 : decode c_N_append 5 = .ok (.if_icmp .ge 33, 3) := by decide +kernel
theorem d_N_append_8 : decode c_N_append 8 = .ok (.aload_n 0, 1) := by decide +kernel
theorem d_N_append_9 : decode c_N_append 9 = .ok (.getfield 9, 3) := by decide +kernel
theorem d_N_append_12 : decode c_N_append 12 = .ok (.aload_n 0, 1) := by decide +kernel
theorem d_N_append_13 : decode c_N_append 13 = .ok (.getfield 19, 3) := by decide +kernel
theorem d_N_append_16 : decode c_N_append 16 = .ok (.iload_n 1, 1) := by decide +kernel
theorem d_N_append_17 : decode c_N_append 17 = .ok (.iastore, 1) := by decide +kernel
theorem d_N_append_18 : decode c_N_append 18 = .ok (.aload_n 0, 1) := by decide +kernel
theorem d_N_append_19 : decode c_N_append 19 = .ok (.getfield 15, 3) := by decide +kernel
theorem d_N_append_22 : decode c_N_append 22 = .ok (.aload_n 0, 1) := by decide +kernel
theorem d_N_append_23 : decode c_N_append 23 = .ok (.getfield 19, 3) := by decide +kernel
theorem d_N_append_26 : decode c_N_append 26 = .ok (.iload_n 2, 1) := by decide +kernel
theorem d_N_append_27 : decode c_N_append 27 = .ok (.bastore, 1) := by decide +kernel
theorem d_N_append_28 : decode c_N_append 28 = .ok (.aload_n 0, 1) := by decide +kernel
theorem d_N_append_29 : decode c_N_append 29 = .ok (.dup, 1) := by decide +kernel
theorem d_N_append_30 : decode c_N_append 30 = .ok (.getfield 19, 3) := by decide +kernel
theorem d_N_append_33 : decode c_N_append 33 = .ok (.iconst 1, 1) := by decide +kernel
theorem d_N_append_34 : decode c_N_append 34 = .ok (.iadd, 1) := by decide +kernel
theorem d_N_append_35 : decode c_N_append 35 = .ok (.putfield 19, 3) := by decide +kernel
theorem d_N_append_38 : decode c_N_append 38 = .ok (.return_, 1) := by decide +kernel
theorem d_I_numberOfTrailingZeros_0 : decode c_I_numberOfTrailingZeros 0 = .ok (.iload_n 0, 1) := by decide +kernel
theorem d_I_numberOfTrailingZeros_1 : decode c_I_numberOfTrailingZeros 1 = .ok (.iconst (-1), 1) := by decide +kernel
theorem d_I_numberOfTrailingZeros_2 : decode c_I_numberOfTrailingZeros 2 = .ok (.ixor, 1) := by decide +kernel
theorem d_I_numberOfTrailingZeros_3 : decode c_I_numberOfTrailingZeros 3 = .ok (.iload_n 0, 1) := by decide +kernel
theorem d_I_numberOfTrailingZeros_4 : decode c_I_numberOfTrailingZeros 4 = .ok (.iconst 1, 1) := by decide +kernel
theorem d_I_numberOfTrailingZeros_5 : decode c_I_numberOfTrailingZeros 5 = .ok (.isub, 1) := by decide +kernel
theorem d_I_numberOfTrailingZeros_6 : decode c_I_numberOfTrailingZeros 6 = .ok (.iand, 1) := by decide +kernel
theorem d_I_numberOfTrailingZeros_7 : decode c_I_numberOfTrailingZeros 7 = .ok (.istore_n 0, 1) := by decide +kernel
theorem d_I_numberOfTrailingZeros_8 : decode c_I_numberOfTrailingZeros 8 = .ok (.iload_n 0, 1) := by decide +kernel
theorem d_I_numberOfTrailingZeros_9 : decode c_I_numberOfTrailingZeros 9 = .ok (.ifCond .gt 8, 3) := by decide +kernel
theorem d_I_numberOfTrailingZeros_12 : decode c_I_numberOfTrailingZeros 12 = .ok (.iload_n 0, 1) := by decide +kernel
theorem d_I_numberOfTrailingZeros_13 : decode c_I_numberOfTrailingZeros 13 = .ok (.bipush 32, 2) := by decide +kernel
theorem d_I_numberOfTrailingZeros_15 : decode c_I_numberOfTrailingZeros 15 = .ok (.iand, 1) := by decide +kernel
theorem d_I_numberOfTrailingZeros_16 : decode c_I_numberOfTrailingZeros 16 = .ok (.ireturn, 1) := by decide +kernel
theorem d_I_numberOfTrailingZeros_17 : decode c_I_numberOfTrailingZeros 17 = .ok (.iconst 1, 1) := by decide +kernel
theorem d_I_numberOfTrailingZeros_18 : decode c_I_numberOfTrailingZeros 18 = .ok (.istore_n 1, 1) := by decide +kernel
theorem d_I_numberOfTrailingZeros_19 : decode c_I_numberOfTrailingZeros 19 = .ok (.iload_n 0, 1) := by decide +kernel
theorem d_I_numberOfTrailingZeros_20 : decode c_I_numberOfTrailingZeros 20 = .ok (.ldc_w 264, 3) := by decide +kernel
theorem d_I_numberOfTrailingZeros_23 : decode c_I_numberOfTrailingZeros 23 = .ok (.if_icmp .le 11, 3) := by decide +kernel
theorem d_I_numberOfTrailingZeros_26 : decode c_I_numberOfTrailingZeros 26 = .ok (.iinc 1 16, 3) := by decide +kernel
theorem d_I_numberOfTrailingZeros_29 : decode c_I_numberOfTrailingZeros 29 = .ok (.iload_n 0, 1) := by decide +kernel
theorem d_I_numberOfTrailingZeros_30 : decode c_I_numberOfTrailingZeros 30 = .ok (.bipush 16, 2) := by decide +kernel
theorem d_I_numberOfTrailingZeros_32 : decode c_I_numberOfTrailingZeros 32 = .ok (.iushr, 1) := by decide +kernel
theorem d_I_numberOfTrailingZeros_33 : decode c_I_numberOfTrailingZeros 33 = .ok (.istore_n 0, 1) := by decide +kernel
theorem d_I_numberOfTrailingZeros_34 : decode c_I_numberOfTrailingZeros 34 = .ok (.iload_n 0, 1) := by decide +kernel
theorem d_I_numberOfTrailingZeros_35 : decode c_I_numberOfTrailingZeros 35 = .ok (.sipush 256, 3) := by decide +kernel
theorem d_I_numberOfTrailingZeros_38 : decode c_I_numberOfTrailingZeros 38 = .ok (.if_icmp .le 11, 3) := by decide +kernel
theorem d_I_numberOfTrailingZeros_41 : decode c_I_numberOfTrailingZeros 41 = .ok (.iinc 1 8, 3) := by decide +kernel
theorem d_I_numberOfTrailingZeros_44 : decode c_I_numberOfTrailingZeros 44 = .ok (.iload_n 0, 1) := by decide +kernel
theorem d_I_numberOfTrailingZeros_45 : decode c_I_numberOfTrailingZeros 45 = .ok (.bipush 8, 2) := by decide +kernel
theorem d_I_numberOfTrailingZeros_47 : decode c_I_numberOfTrailingZeros 47 = .ok (.iushr, 1) := by decide +kernel
theorem d_I_numberOfTrailingZeros_48 : decode c_I_numberOfTrailingZeros 48 = .ok (.istore_n 0, 1) := by decide +kernel
theorem d_I_numberOfTrailingZeros_49 : decode c_I_numberOfTrailingZeros 49 = .ok (.iload_n 0, 1) := by decide +kernel
theorem d_I_numberOfTrailingZeros_50 : decode c_I_numberOfTrailingZeros 50 = .ok (.bipush 16, 2) := by decide +kernel
theorem d_I_numberOfTrailingZeros_52 : decode c_I_numberOfTrailingZeros 52 = .ok (.if_icmp .le 10, 3) := by decide +kernel
theorem d_I_numberOfTrailingZeros_55 : decode c_I_numberOfTrailingZeros 55 = .ok (.iinc 1 4, 3) := by decide +kernel
theorem d_I_numberOfTrailingZeros_58 : decode c_I_numberOfTrailingZeros 58 = .ok (.iload_n 0, 1) := by decide +kernel
theorem d_I_numberOfTrailingZeros_59 : decode c_I_numberOfTrailingZeros 59 = .ok (.iconst 4, 1) := by decide +kernel
theorem d_I_numberOfTrailingZeros_60 : decode c_I_numberOfTrailingZeros 60 = .ok (.iushr, 1) := by decide +kernel
theorem d_I_numberOfTrailingZeros_61 : decode c_I_numberOfTrailingZeros 61 = .ok (.istore_n 0, 1) := by decide +kernel
theorem d_I_numberOfTrailingZeros_62 : decode c_I_numberOfTrailingZeros 62 = .ok (.iload_n 0, 1) := by decide +kernel
theorem d_I_numberOfTrailingZeros_63 : decode c_I_numberOfTrailingZeros 63 = .ok (.iconst 4, 1) := by decide +kernel
theorem d_I_numberOfTrailingZeros_64 : decode c_I_numberOfTrailingZeros 64 = .ok (.if_icmp .le 10, 3) := by decide +kernel
theorem d_I_numberOfTrailingZeros_67 : decode c_I_numberOfTrailingZeros 67 = .ok (.iinc 1 2, 3) := by decide +kernel
theorem d_I_numberOfTrailingZeros_70 : decode c_I_numberOfTrailingZeros 70 = .ok (.iload_n 0, 1) := by decide +kernel
theorem d_I_numberOfTrailingZeros_71 : decode c_I_numberOfTrailingZeros 71 = .ok (.iconst 2, 1) := by decide +kernel
theorem d_I_numberOfTrailingZeros_72 : decode c_I_numberOfTrailingZeros 72 = .ok (.iushr, 1) := by decide +kernel
theorem d_I_numberOfTrailingZeros_73 : decode c_I_numberOfTrailingZeros 73 = .ok (.istore_n 0, 1) := by decide +kernel
theorem d_I_numberOfTrailingZeros_74 : decode c_I_numberOfTrailingZeros 74 = .ok (.iload_n 1, 1) := by decide +kernel
theorem d_I_numberOfTrailingZeros_75 : decode c_I_numberOfTrailingZeros 75 = .ok (.iload_n 0, 1) := by decide +kernel
theorem d_I_numberOfTrailingZeros_76 : decode c_I_numberOfTrailingZeros 76 = .ok (.iconst 1, 1) := by decide +kernel
theorem d_I_numberOfTrailingZeros_77 : decode c_I_numberOfTrailingZeros 77 = .ok (.iushr, 1) := by decide +kernel
theorem d_I_numberOfTrailingZeros_78 : decode c_I_numberOfTrailingZeros 78 = .ok (.iadd, 1) := by decide +kernel
theorem d_I_numberOfTrailingZeros_79 : decode c_I_numberOfTrailingZeros 79 = .ok (.ireturn, 1) := by decide +kernel
theorem d_J_numberOfTrailingZeros_0 : decode c_J_numberOfTrailingZeros 0 = .ok (.lload_n 0, 1) := by decide +kernel
theorem d_J_numberOfTrailingZeros_1 : decode c_J_numberOfTrailingZeros 1 = .ok (.l2i, 1) := by decide +kernel
theorem d_J_numberOfTrailingZeros_2 : decode c_J_numberOfTrailingZeros 2 = .ok (.istore_n 2, 1) := by decide +kernel
theorem d_J_numberOfTrailingZeros_3 : decode c_J_numberOfTrailingZeros 3 = .ok (.iload_n 2, 1) := by decide +kernel
theorem d_J_numberOfTrailingZeros_4 : decode c_J_numberOfTrailingZeros 4 = .ok (.ifCond .ne 17, 3) := by decide +kernel
theorem d_J_numberOfTrailingZeros_7 : decode c_J_numberOfTrailingZeros 7 = .ok (.bipush 32, 2) := by decide +kernel
theorem d_J_numberOfTrailingZeros_9 : decode c_J_numberOfTrailingZeros 9 = .ok (.lload_n 0, 1) := by decide +kernel
theorem d_J_numberOfTrailingZeros_10 : decode c_J_numberOfTrailingZeros 10 = .ok (.bipush 32, 2) := by decide +kernel
theorem d_J_numberOfTrailingZeros_12 : decode c_J_numberOfTrailingZeros 12 = .ok (.lushr, 1) := by decide +kernel
theorem d_J_numberOfTrailingZeros_13 : decode c_J_numberOfTrailingZeros 13 = .ok (.l2i, 1) := by decide +kernel
theorem d_J_numberOfTrailingZeros_14 : decode c_J_numberOfTrailingZeros 14 = .ok (.invokestatic 311, 3) := by decide +kernel
theorem d_J_numberOfTrailingZeros_17 : decode c_J_numberOfTrailingZeros 17 = .ok (.iadd, 1) := by decide +kernel
theorem d_J_numberOfTrailingZeros_18 : decode c_J_numberOfTrailingZeros 18 = .ok (.goto 7, 3) := by decide +kernel
theorem d_J_numberOfTrailingZeros_21 : decode c_J_numberOfTrailingZeros 21 = .ok (.iload_n 2, 1) := by decide +kernel
theorem d_J_numberOfTrailingZeros_22 : decode c_J_numberOfTrailingZeros 22 = .ok (.invokestatic 311, 3) := by decide +kernel
theorem d_J_numberOfTrailingZeros_25 : decode c_J_numberOfTrailingZeros 25 = .ok (.ireturn, 1) := by decide +kernel
end
section
/-! ROWS OF THE WALK, own words. zh: the heap as a partial map from addresses to pictures of cells. zG: the heap holds the map. zJ: from this place of a method, with this map, these locals, this stack, the method comes to Q. Numbers on the stack are Ints (iv, jv). -/
abbrev zh : Type := Nat → Option va_E
def zput (σ : zh) (a : Nat) (e : va_E) : zh := fun b => if b = a then some e else σ b
theorem zput_s (σ : zh) (a : Nat) (e : va_E) : zput σ a e a = some e := by simp [zput]
theorem zput_n {σ : zh} {a b : Nat} {e : va_E} (h : b ≠ a) : zput σ a e b = σ b := by simp [zput, h]
theorem zput_o {σ : zh} {a b : Nat} {e e0 e1 : va_E} (h0 : σ a = some e0) (h1 : σ b = some e1) (h : e0 ≠ e1) : zput σ a e b = some e1 := by
  rw [zput_n (fun q => h (by rw [q, h0] at h1; exact Option.some.inj h1))]; exact h1
def zG (D : va_G) (cl : List vw_C) (A : Nat → Prop) (σ : zh) (H : Heap) : Prop := ∃ ws : va_W, va_P D cl ws H ∧ va_D A ws ∧ ∀ (a : Nat) (e : va_E), σ a = some e → ∃ k : Nat, ws[k]? = some (a, e)
theorem zG.lt {D : va_G} {cl : List vw_C} {A : Nat → Prop} {σ : zh} {H : Heap} (h : zG D cl A σ H) {a : Nat} {e : va_E} (ha : σ a = some e) : a < H.size := by
  obtain ⟨ws, hP, -, hw⟩ := h
  obtain ⟨k, hk⟩ := hw a e ha
  exact (hP k _ hk).lt
theorem zG.set {D : va_G} {cl : List vw_C} {A : Nat → Prop} {σ : zh} {H1 : Heap} {ws : va_W} {k a : Nat} {e0 e : va_E} (hw : ∀ (a : Nat) (e : va_E), σ a = some e → ∃ k : Nat, ws[k]? = some (a, e)) (hk : ws[k]? = some (a, e0)) (hP : va_P D cl (ws.set k (a, e)) H1) (hD : va_D A (ws.set k (a, e))) : zG D cl A (zput σ a e) H1 := by
  have hl := (List.getElem?_eq_some_iff.mp hk).1
  refine ⟨_, hP, hD, fun b x hb => ?_⟩
  by_cases h : b = a
  · subst h
    rw [zput_s] at hb
    cases hb
    exact ⟨k, List.getElem?_set_self hl⟩
  · rw [zput_n h] at hb
    obtain ⟨j, hj⟩ := hw b x hb
    refine ⟨j, ?_⟩
    rw [List.getElem?_set_ne ?_]
    · exact hj
    · rintro rfl
      rw [hk] at hj
      cases hj
      exact h rfl
theorem zG.push {D : va_G} {cl : List vw_C} {A : Nat → Prop} {σ : zh} {H1 : Heap} {ws : va_W} {a : Nat} {e : va_E} (hw : ∀ (a : Nat) (e : va_E), σ a = some e → ∃ k : Nat, ws[k]? = some (a, e)) (hP : va_P D cl (ws ++ [(a, e)]) H1) (hD : va_D A (ws ++ [(a, e)])) : zG D cl A (zput σ a e) H1 ∧ ∀ (b : Nat) (x : va_E), σ b = some x → b ≠ a := by
  have hla : (ws ++ [(a, e)])[ws.length]? = some (a, e) := by simp
  refine ⟨⟨_, hP, hD, fun b x hb => ?_⟩, fun b x hb => ?_⟩
  · by_cases h : b = a
    · subst h
      rw [zput_s] at hb
      cases hb
      exact ⟨ws.length, hla⟩
    · rw [zput_n h] at hb
      obtain ⟨j, hj⟩ := hw b x hb
      exact ⟨j, by rw [List.getElem?_append_left (List.getElem?_eq_some_iff.mp hj).1]; exact hj⟩
  · rintro rfl
    obtain ⟨j, hj⟩ := hw b x hb
    have hlt := (List.getElem?_eq_some_iff.mp hj).1
    have := hD.1 j ws.length (b, x) (b, e) (by rw [List.getElem?_append_left hlt]; exact hj) hla rfl
    omega
/-! numbers -/
abbrev iv (a : Int) : Value := .int (Int32.ofInt a)
abbrev jv (a : Int) : Value := .long (Int64.ofInt a)
abbrev ia (c : ClassId) (n : Nat) (f : Nat → Int) : va_E := .inl (c, n, .inl (fun j => Int32.ofInt (f j)))
abbrev la (c : ClassId) (n : Nat) (f : Nat → Int) : va_E := .inl (c, n, .inr (.inl (fun j => Int64.ofInt (f j))))
abbrev ra (c : ClassId) (n : Nat) (f : Nat → Option Nat) : va_E := .inl (c, n, .inr (.inr (.inr (.inr f))))
abbrev ob (ci : Nat) (fs : List Value) : va_E := .inr (ci, fs)
def iup (f : Nat → Int) (k : Nat) (v : Int) : Nat → Int := fun j => if j = k then v else f j
theorem iup_s (f : Nat → Int) (k : Nat) (v : Int) : iup f k v k = v := by simp [iup]
theorem iup_n {f : Nat → Int} {k j : Nat} {v : Int} (h : j ≠ k) : iup f k v j = f j := by simp [iup, h]
theorem z32 {a : Int} (h : -2147483648 ≤ a ∧ a ≤ 2147483647) : (Int32.ofInt a).toInt = a := Int32.toInt_ofInt_of_le (by omega) (by omega)
theorem z64 {a : Int} (h : -9223372036854775808 ≤ a ∧ a ≤ 9223372036854775807) : (Int64.ofInt a).toInt = a := Int64.toInt_ofInt_of_le (by omega) (by omega)
theorem z32r (x : Int32) : -2147483648 ≤ x.toInt ∧ x.toInt ≤ 2147483647 := by
  have h1 := x.le_toInt
  have h2 := x.toInt_lt
  omega
theorem z32_le {a b : Int} (ha : -2147483648 ≤ a ∧ a ≤ 2147483647) (hb : -2147483648 ≤ b ∧ b ≤ 2147483647) : Int32.ofInt a ≤ Int32.ofInt b ↔ a ≤ b := by rw [Int32.le_iff_toInt_le, z32 ha, z32 hb]
theorem z32_lt {a b : Int} (ha : -2147483648 ≤ a ∧ a ≤ 2147483647) (hb : -2147483648 ≤ b ∧ b ≤ 2147483647) : Int32.ofInt a < Int32.ofInt b ↔ a < b := by rw [Int32.lt_iff_toInt_lt, z32 ha, z32 hb]
theorem z32_eq {a b : Int} (ha : -2147483648 ≤ a ∧ a ≤ 2147483647) (hb : -2147483648 ≤ b ∧ b ≤ 2147483647) : Int32.ofInt a = Int32.ofInt b ↔ a = b := by rw [← Int32.toInt_inj, z32 ha, z32 hb]
theorem z64_lt {a b : Int} (ha : -9223372036854775808 ≤ a ∧ a ≤ 9223372036854775807) (hb : -9223372036854775808 ≤ b ∧ b ≤ 9223372036854775807) : Int64.ofInt a < Int64.ofInt b ↔ a < b := by rw [Int64.lt_iff_toInt_lt, z64 ha, z64 hb]
theorem z64_eq {a b : Int} (ha : -9223372036854775808 ≤ a ∧ a ≤ 9223372036854775807) (hb : -9223372036854775808 ≤ b ∧ b ≤ 9223372036854775807) : Int64.ofInt a = Int64.ofInt b ↔ a = b := by rw [← Int64.toInt_inj, z64 ha, z64 hb]
theorem z32_0 : Int32.ofInt 0 = 0 := by decide
theorem zidx {i : Int} {k : Nat} (hk : i = (k : Int)) (h : k ≤ 2147483647) : (Int32.ofInt i).toNatClampNeg = k := by
  rw [Int32.toNatClampNeg_ofInt_of_le (by omega) (by omega)]; omega
theorem zin {i : Int} {k n : Nat} (hk : i = (k : Int)) (h : k ≤ 2147483647) (hn : k < n) : vp_in (Int32.ofInt i) n := by
  rw [vp_in_iff, z32 (by omega)]; omega
theorem zup_i (f : Nat → Int) (k : Nat) (v : Int) : upd (fun j => Int32.ofInt (f j)) k (Int32.ofInt v) = fun j => Int32.ofInt (iup f k v j) := by
  funext j
  by_cases h : j = k
  · subst h; simp [upd, iup]
  · simp [upd, iup, h]
theorem zup_l (f : Nat → Int) (k : Nat) (v : Int) : vp_updL (fun j => Int64.ofInt (f j)) k (Int64.ofInt v) = fun j => Int64.ofInt (iup f k v j) := by
  funext j
  by_cases h : j = k
  · subst h; simp [vp_updL, iup]
  · simp [vp_updL, iup, h]
theorem znar {v : Int} (h : v = 0 ∨ v = 1) : vp_nar .boolean (Int32.ofInt v) = Int32.ofInt v := by
  rcases h with rfl | rfl <;> decide
theorem znarz {v : Int} (h : v = 0 ∨ v = 1) : narrow .boolean (.int (Int32.ofInt v)) = .int (Int32.ofInt v) := by
  rcases h with rfl | rfl <;> decide
theorem zfitz {v : Int} (h : v = 0 ∨ v = 1) : fits .boolean (.int (Int32.ofInt v)) = true := by
  rcases h with rfl | rfl <;> decide
/-! locals: a list, what is known of each place -/
def zL (ls : Array Slot) (nL : Nat) (lv : List (Option Value)) : Prop := ls.size = nL ∧ lv_wf ls ∧ lv.length = nL ∧ ∀ (i : Nat) (v : Value), lv[i]? = some (some v) → ls[i]? = some (.val v)
def zas (lv : List (Option Value)) : List (Nat × Value) := (List.range lv.length).filterMap fun i => (lv[i]?.join).map fun v => (i, v)
theorem zas_mem {lv : List (Option Value)} {i : Nat} {v : Value} : (i, v) ∈ zas lv ↔ lv[i]? = some (some v) := by
  unfold zas
  simp only [List.mem_filterMap, List.mem_range, Option.map_eq_some_iff, Prod.mk.injEq]
  constructor
  · rintro ⟨j, hj, w, hw, rfl, rfl⟩
    cases hq : lv[j]? with
    | none => rw [hq] at hw; cases hw
    | some o => rw [hq] at hw; cases o with
      | none => cases hw
      | some x => cases hw; rfl
  · intro h
    exact ⟨i, (List.getElem?_eq_some_iff.mp h).1, v, by rw [h]; rfl, rfl, rfl⟩
theorem zL.has {ls : Array Slot} {nL : Nat} {lv : List (Option Value)} (h : zL ls nL lv) : lv_has ls nL (zas lv) := ⟨h.1, h.2.1, fun q hq => h.2.2.2 q.1 q.2 (zas_mem.mp hq)⟩
def zkill (lv : List (Option Value)) (i : Nat) : List (Option Value) := match i with
  | 0 => lv
  | j + 1 => match lv[j]? with
    | some (some w) => if w.category = 2 then lv.set j none else lv
    | _ => lv
def zst1 (lv : List (Option Value)) (i : Nat) (v : Value) : List (Option Value) := (zkill lv i).set i (some v)
def zst2 (lv : List (Option Value)) (i : Nat) (v : Value) : List (Option Value) := ((zkill lv i).set i (some v)).set (i + 1) none
theorem zkill_len (lv : List (Option Value)) (i : Nat) : (zkill lv i).length = lv.length := by
  unfold zkill
  split
  · rfl
  · split
    · split <;> simp
    · rfl
theorem zkill_at {lv : List (Option Value)} {i j : Nat} {v : Value} (h : (zkill lv i)[j]? = some (some v)) (hj : j ≠ i) : lv[j]? = some (some v) ∧ ¬ (j + 1 = i ∧ v.category = 2) := by
  unfold zkill at h
  split at h
  · exact ⟨h, fun q => by omega⟩
  · rename_i n
    split at h
    · rename_i w hw
      split at h
      · rename_i hc
        by_cases hjn : j = n
        · subst hjn
          rw [List.getElem?_set_self (List.getElem?_eq_some_iff.mp hw).1] at h
          cases h
        · rw [List.getElem?_set_ne (Ne.symm hjn)] at h
          exact ⟨h, fun q => by omega⟩
      · rename_i hc
        refine ⟨h, fun q => ?_⟩
        have : j = n := by omega
        subst this
        rw [hw] at h
        cases h
        exact hc q.2
    · rename_i hno
      refine ⟨h, fun q => ?_⟩
      have : j = n := by omega
      subst this
      exact hno v h
theorem zst1_ok {ls' : Array Slot} {nL i : Nat} {lv : List (Option Value)} {v : Value} (hlen : lv.length = nL) (h : lv_has ls' nL ((i, v) :: (zas lv).filter (fun q => !(q.1 == i) && !(q.1 + 1 == i && q.2.category == 2)))) : zL ls' nL (zst1 lv i v) := by
  refine ⟨h.1, h.2.1, by simp [zst1, zkill_len, hlen], fun j w hj => ?_⟩
  by_cases hji : j = i
  · subst hji
    unfold zst1 at hj
    have hl : j < (zkill lv j).length := by
      have := (List.getElem?_eq_some_iff.mp hj).1
      simpa using this
    rw [List.getElem?_set_self hl] at hj
    cases hj
    exact h.2.2 (j, v) List.mem_cons_self
  · unfold zst1 at hj
    rw [List.getElem?_set_ne (Ne.symm hji)] at hj
    obtain ⟨h1, h2⟩ := zkill_at hj hji
    refine h.2.2 (j, w) (List.mem_cons_of_mem _ (List.mem_filter.mpr ⟨zas_mem.mpr h1, ?_⟩))
    simp only [Bool.and_eq_true, Bool.not_eq_true', beq_eq_false_iff_ne, Bool.and_eq_false_iff]
    refine ⟨hji, ?_⟩
    by_cases q : j + 1 = i
    · exact Or.inr (fun z => h2 ⟨q, z⟩)
    · exact Or.inl q
theorem zst2_ok {ls' : Array Slot} {nL i : Nat} {lv : List (Option Value)} {v : Value} (hlen : lv.length = nL) (h : lv_has ls' nL ((i, v) :: (zas lv).filter (fun q => !(q.1 == i) && (!(q.1 == i + 1) && !(q.1 + 1 == i && q.2.category == 2))))) : zL ls' nL (zst2 lv i v) := by
  refine ⟨h.1, h.2.1, by simp [zst2, zkill_len, hlen], fun j w hj => ?_⟩
  unfold zst2 at hj
  by_cases hj1 : j = i + 1
  · subst hj1
    have hl : i + 1 < ((zkill lv i).set i (some v)).length := by
      have := (List.getElem?_eq_some_iff.mp hj).1
      simpa using this
    rw [List.getElem?_set_self hl] at hj
    cases hj
  rw [List.getElem?_set_ne (Ne.symm hj1)] at hj
  by_cases hji : j = i
  · subst hji
    have hl : j < (zkill lv j).length := by
      have := (List.getElem?_eq_some_iff.mp hj).1
      simpa using this
    rw [List.getElem?_set_self hl] at hj
    cases hj
    exact h.2.2 (j, v) List.mem_cons_self
  · rw [List.getElem?_set_ne (Ne.symm hji)] at hj
    obtain ⟨h1, h2⟩ := zkill_at hj hji
    refine h.2.2 (j, w) (List.mem_cons_of_mem _ (List.mem_filter.mpr ⟨zas_mem.mpr h1, ?_⟩))
    simp only [Bool.and_eq_true, Bool.not_eq_true', beq_eq_false_iff_ne, Bool.and_eq_false_iff]
    refine ⟨hji, hj1, ?_⟩
    by_cases q : j + 1 = i
    · exact Or.inr (fun z => h2 ⟨q, z⟩)
    · exact Or.inl q
/-! the judgement -/
abbrev zC : Type := Program × Launch × Env × Room × State × MethodId × Array Value × List Frame × Method × Code
/-- facts of the tables and of what lies outside A: they stay -/
def zFok (F : State → Prop) (A : Nat → Prop) : Prop := (∀ (U : State) (g : JFrame) (mk : MethodId) (a : Array Value), F U → F (U.calling g mk a)) ∧ ∀ s U : State, s.WarmedH U.vm → s.heap.size ≤ U.heap.size → (∀ q : Nat, q < s.heap.size → ¬ A q → U.heap[q]? = s.heap[q]?) → F s → F U
def zCx (K : zC) (D : va_G) (cl : List vw_C) (A : Nat → Prop) (tys : List (ClassId × FieldType)) (F : State → Prop) (rm : Room) (cc : ByteArray) (own nm : String) (Ts : List Cond) (nL : Nat) (ret : Option FieldType) : Prop := match K with
  | (p, _, _, R, s, m, args, _, meth, c) => p.tables.exec = Jvm.exec ∧ c.code = cc ∧ c.maxLocals = nL ∧ s.vm.findClass own = some m.cls ∧ (∀ w ∈ Ts, w.before args s = true) ∧ meth.sig.returnType = ret ∧ meth.locks = false ∧ va_K D cl tys s ∧ (∀ q, s.heap.size ≤ q → A q) ∧ F s ∧ R = rm ∧ zFok F A ∧ meth.name = nm
def zJ (K : zC) (D : va_G) (cl : List vw_C) (A : Nat → Prop) (nL : Nat) (Q : State → Prop) (cells slots : Nat) (σ : zh) (pc : Nat) (lv : List (Option Value)) (st : List Value) : Prop := match K with
  | (p, l, e, R, s, m, args, below, meth, c) => ∀ (H : Heap) (locs : List Loc) (ls : Array Slot), zG D cl A σ H → va_S A s.heap H locs → zL ls nL lv → W p l e R s m args below meth c H locs cells slots Q (F0 m pc ls st)
def zQc (D : va_G) (cl : List vw_C) (A : Nat → Prop) (post : Option Value → zh → Prop) : Array Value → State → Outcome → State → Prop := fun _ st oc t => (∃ (r : Option Value) (σ' : zh), oc = .returned r ∧ post r σ' ∧ zG D cl A σ' t.heap) ∧ va_F A st t
def zQ (K : zC) (D : va_G) (cl : List vw_C) (A : Nat → Prop) (post : Option Value → zh → Prop) (mc ms : Nat) : State → Prop := match K with
  | (_, _, _, _, s, _, args, below, _, _) => MQ below (zQc D cl A post) args s mc ms A
def zPc (D : va_G) (cl : List vw_C) (A : Nat → Prop) (tys : List (ClassId × FieldType)) (F : State → Prop) (vals : List Value) (σ : zh) : Array Value → State → Prop := va_Pc vals (fun U => (∀ q, U.heap.size ≤ q → A q) ∧ va_K D cl tys U ∧ F U ∧ zG D cl A σ U.heap)
/-- a method's contract: from the map σ it answers r and leaves the map σ', with post r σ' -/
def zM (l : Launch) (D : va_G) (cl : List vw_C) (A : Nat → Prop) (tys : List (ClassId × FieldType)) (F : State → Prop) (y : MethodName) (ws : List Cond) (rm : Room) (vals : List Value) (σ : zh) (post : Option Value → zh → Prop) : Prop :=
  Met l y ws rm (zPc D cl A tys F vals σ) (zQc D cl A post) rm.cells rm.slots A
def zents (vals : List Value) : List (Option Value) := vals.flatMap fun v => if v.category = 2 then [some v, none] else [some v]
theorem zents_at : ∀ (vals : List Value) (i : Nat) (v : Value), (zents vals)[i]? = some (some v) → (lg_sl vals)[i]? = some (.val v)
  | [], i, v, h => by simp [zents] at h
  | w :: l, i, v, h => by
    have ih := zents_at l
    unfold zents lg_sl at *
    rw [List.flatMap_cons] at h ⊢
    by_cases hc : w.category = 2
    · simp only [hc, if_true] at h ⊢
      match i, h with
      | 0, h => simpa using h
      | 1, h => simp at h
      | j + 2, h => simpa using ih j v (by simpa using h)
    · simp only [hc, if_false] at h ⊢
      match i, h with
      | 0, h => simpa using h
      | j + 1, h => simpa using ih j v (by simpa using h)
theorem zents_len : ∀ vals : List Value, (zents vals).length = (lg_sl vals).length
  | [] => rfl
  | w :: l => by
    have ih := zents_len l
    unfold zents lg_sl at *
    rw [List.flatMap_cons, List.flatMap_cons, List.length_append, List.length_append, ih]
    by_cases hc : w.category = 2 <;> simp [hc]
def zent (vals : List Value) (nL : Nat) : List (Option Value) := zents vals ++ List.replicate (nL - (zents vals).length) none
theorem zent_ok (vals : List Value) {n : Nat} (h : (zents vals).length ≤ n) : zL ((lg_sl vals ++ List.replicate (n - (lg_sl vals).length) Slot.unset).toArray) n (zent vals n) := by
  have h1 := lv_entry vals (n := n) (by rw [← zents_len]; exact h)
  refine ⟨h1.1, h1.2.1, by simp [zent]; omega, fun i v hi => ?_⟩
  unfold zent at hi
  by_cases hl : i < (zents vals).length
  · rw [List.getElem?_append_left hl] at hi
    have h2 := zents_at vals i v hi
    simp only [List.getElem?_toArray]
    rw [List.getElem?_append_left (by rw [← zents_len]; exact hl)]
    exact h2
  · rw [List.getElem?_append_right (by omega)] at hi
    rw [List.getElem?_replicate] at hi
    split at hi <;> simp at hi

section ZR
variable {K : zC} {D : va_G} {cl : List vw_C} {A : Nat → Prop} {tys : List (ClassId × FieldType)} {F : State → Prop} {rm : Room} {cc : ByteArray} {own nm : String} {Ts : List Cond} {nL : Nat} {ret : Option FieldType} {Q : State → Prop} {cells slots pc : Nat} {σ : zh} {lv : List (Option Value)} {st : List Value}
theorem zMet {l : Launch} {y : MethodName} {ws ws' : List Cond} {vals : List Value} {post : Option Value → zh → Prop} (hF : zFok F A) (hy : plainName y.cls = true) (hw : ws = Cond.code y cc nL ret :: ws') (hn : (zents vals).length ≤ nL)
    (body : ∀ K : zC, K.2.1 = l → zCx K D cl A tys F rm cc y.cls y.name ws nL ret → zJ K D cl A nL (zQ K D cl A post rm.cells rm.slots) 0 0 σ 0 (zent vals nL) []) : zM l D cl A tys F y ws rm vals σ post := by
  refine Met.ofW (cc := cc) (maxL := nL) (ret := ret) hy hw ?_
  intro p e s m args below meth c s₁ B hml hv
  obtain ⟨rfl, hA, hK, hFs, hG⟩ := hv
  have hown : s.vm.findClass y.cls = some m.cls := findClass_of_methodNamed B.named
  have k := body (p, l, e, (headSpec ws rm).room, s, m, vals.toArray, below, meth, c) rfl ⟨B.exec, B.bytes, hml, hown, atoms_spec (ws := ws) B.pre, B.returns, B.notSynchronized, hK, hA, hFs, rfl, hF, (name_of_methodNamed B.named B.method).1⟩
  rw [lg_entry_eq]
  exact k s.heap [] _ hG va_S.rf (zent_ok vals hn)
theorem z_widen {k n : Nat} (h1 : cells ≤ k) (h2 : slots ≤ n) (kk : zJ K D cl A nL Q (k) (n) (σ) (pc) (lv) (st)) : zJ K D cl A nL Q (cells) (slots) (σ) (pc) (lv) (st) := by
  obtain ⟨p, l, e, R, s, m, args, below, meth, c⟩ := K
  intro H locs ls hG hS hL
  exact W.widen h1 h2 (kk H locs ls hG hS hL)
theorem z_eq {lv' : List (Option Value)} {st' : List Value} {σ' : zh} (h1 : lv = lv') (h2 : st = st') (h3 : σ = σ') (kk : zJ K D cl A nL Q (cells) (slots) (σ') (pc) (lv') (st')) : zJ K D cl A nL Q (cells) (slots) (σ) (pc) (lv) (st) := by
  subst h1; subst h2; subst h3; exact kk
theorem z_iret {post : Option Value → zh → Prop} {mc ms : Nat} {a : Int} (C : zCx K D cl A tys F rm cc own nm Ts nL (some .int)) (hd : decode cc pc = .ok (.ireturn, 1)) (h1 : cells ≤ mc) (h2 : slots ≤ ms) (hp : post (some (iv a)) σ) : zJ K D cl A nL (zQ K D cl A post mc ms) (cells) (slots) (σ) (pc) (lv) ([iv a]) := by
  obtain ⟨p, l, e, R, s, m, args, below, meth, c⟩ := K
  intro H locs ls hG hS hL
  refine W.widen h1 h2 ?_
  have hlocks : meth.locks = false := C.2.2.2.2.2.2.1
  exact W.iret (v := Int32.ofInt a) C.1 C.2.1 C.2.2.2.2.2.1 (fun t ht hW => ⟨⟨_, σ, rfl, hp, by rw [ht]; exact hG⟩, hS.F ht⟩) hS.2.2 hd
theorem z_zret {post : Option Value → zh → Prop} {mc ms : Nat} {a : Int} (C : zCx K D cl A tys F rm cc own nm Ts nL (some .boolean)) (hd : decode cc pc = .ok (.ireturn, 1)) (h1 : cells ≤ mc) (h2 : slots ≤ ms) (ha : a = 0 ∨ a = 1) (hp : post (some (iv a)) σ) : zJ K D cl A nL (zQ K D cl A post mc ms) (cells) (slots) (σ) (pc) (lv) ([iv a]) := by
  obtain ⟨p, l, e, R, s, m, args, below, meth, c⟩ := K
  intro H locs ls hG hS hL
  refine W.widen h1 h2 ?_
  have hlocks : meth.locks = false := C.2.2.2.2.2.2.1
  exact W.zret (v := Int32.ofInt a) C.1 C.2.1 C.2.2.2.2.2.1 (znarz ha) (fun t ht hW => ⟨⟨_, σ, rfl, hp, by rw [ht]; exact hG⟩, hS.F ht⟩) hS.2.2 hd
theorem z_lret {post : Option Value → zh → Prop} {mc ms : Nat} {a : Int} (C : zCx K D cl A tys F rm cc own nm Ts nL (some .long)) (hd : decode cc pc = .ok (.lreturn, 1)) (h1 : cells ≤ mc) (h2 : slots ≤ ms) (hp : post (some (jv a)) σ) : zJ K D cl A nL (zQ K D cl A post mc ms) (cells) (slots) (σ) (pc) (lv) ([jv a]) := by
  obtain ⟨p, l, e, R, s, m, args, below, meth, c⟩ := K
  intro H locs ls hG hS hL
  refine W.widen h1 h2 ?_
  have hlocks : meth.locks = false := C.2.2.2.2.2.2.1
  exact W.lret (v := Int64.ofInt a) C.1 C.2.1 C.2.2.2.2.2.1 (fun t ht hW => ⟨⟨_, σ, rfl, hp, by rw [ht]; exact hG⟩, hS.F ht⟩) hS.2.2 hd
theorem z_vret {post : Option Value → zh → Prop} {mc ms : Nat} (C : zCx K D cl A tys F rm cc own nm Ts nL none) (hd : decode cc pc = .ok (.return_, 1)) (h1 : cells ≤ mc) (h2 : slots ≤ ms) (hp : post none σ) : zJ K D cl A nL (zQ K D cl A post mc ms) (cells) (slots) (σ) (pc) (lv) ([]) := by
  obtain ⟨p, l, e, R, s, m, args, below, meth, c⟩ := K
  intro H locs ls hG hS hL
  refine W.widen h1 h2 ?_
  have hlocks : meth.locks = false := C.2.2.2.2.2.2.1
  exact W.vret C.1 C.2.1 C.2.2.2.2.2.1 (fun t ht hW => ⟨⟨_, σ, rfl, hp, by rw [ht]; exact hG⟩, hS.F ht⟩) hS.2.2 hd
theorem z_aret {post : Option Value → zh → Prop} {mc ms : Nat} {r : Option Nat} {cn : String} (C : zCx K D cl A tys F rm cc own nm Ts nL (some (.object cn))) (hd : decode cc pc = .ok (.areturn, 1)) (h1 : cells ≤ mc) (h2 : slots ≤ ms) (hp : post (some (va_rf r)) σ) : zJ K D cl A nL (zQ K D cl A post mc ms) (cells) (slots) (σ) (pc) (lv) ([va_rf r]) := by
  obtain ⟨p, l, e, R, s, m, args, below, meth, c⟩ := K
  intro H locs ls hG hS hL
  refine W.widen h1 h2 ?_
  have hlocks : meth.locks = false := C.2.2.2.2.2.2.1
  exact W.aret (v := va_rf r) C.1 C.2.1 C.2.2.2.2.2.1 (Or.inl ⟨_, rfl⟩) (va_rf_or r) (fun t ht hW => ⟨⟨_, σ, rfl, hp, by rw [ht]; exact hG⟩, hS.F ht⟩) hS.2.2 hd
theorem z_iconst (C : zCx K D cl A tys F rm cc own nm Ts nL ret) {a : Int} (hd : decode cc pc = .ok (.iconst a, 1)) (k : zJ K D cl A nL Q (cells) (slots) (σ) (pc + 1) (lv) (iv a :: st)) : zJ K D cl A nL Q (cells) (slots) (σ) (pc) (lv) (st) := by
  obtain ⟨p, l, e, R, s, m, args, below, meth, c⟩ := K
  intro H locs ls hG hS hL
  exact lv_iconst C.1 C.2.1 hd rfl (k H locs ls hG hS hL)
theorem z_bipush (C : zCx K D cl A tys F rm cc own nm Ts nL ret) {a : Int} (hd : decode cc pc = .ok (.bipush a, 2)) (hv : (Int8.ofInt a).toInt32 = Int32.ofInt a) (k : zJ K D cl A nL Q (cells) (slots) (σ) (pc + 2) (lv) (iv a :: st)) : zJ K D cl A nL Q (cells) (slots) (σ) (pc) (lv) (st) := by
  obtain ⟨p, l, e, R, s, m, args, below, meth, c⟩ := K
  intro H locs ls hG hS hL
  exact lv_bipush C.1 C.2.1 hd hv (k H locs ls hG hS hL)
theorem z_sipush (C : zCx K D cl A tys F rm cc own nm Ts nL ret) {a : Int} (hd : decode cc pc = .ok (.sipush a, 3)) (hv : (Int16.ofInt a).toInt32 = Int32.ofInt a) (k : zJ K D cl A nL Q (cells) (slots) (σ) (pc + 3) (lv) (iv a :: st)) : zJ K D cl A nL Q (cells) (slots) (σ) (pc) (lv) (st) := by
  obtain ⟨p, l, e, R, s, m, args, below, meth, c⟩ := K
  intro H locs ls hG hS hL
  exact lv_sipush C.1 C.2.1 hd hv (k H locs ls hG hS hL)
theorem z_lconst (C : zCx K D cl A tys F rm cc own nm Ts nL ret) {n : Fin 2} (a : Int) (hd : decode cc pc = .ok (.lconst n, 1)) (hv : Int64.ofNat (n : Nat) = Int64.ofInt a) (k : zJ K D cl A nL Q (cells) (slots) (σ) (pc + 1) (lv) (jv a :: st)) : zJ K D cl A nL Q (cells) (slots) (σ) (pc) (lv) (st) := by
  obtain ⟨p, l, e, R, s, m, args, below, meth, c⟩ := K
  intro H locs ls hG hS hL
  exact lv_lconst C.1 C.2.1 hd hv (k H locs ls hG hS hL)
theorem z_ldc2 (C : zCx K D cl A tys F rm cc own nm Ts nL ret) {index : Nat} (a : Int) (hw : Cond.constantLong own index (Int64.ofInt a) ∈ Ts) (hd : decode cc pc = .ok (.ldc2_w index, 3)) (k : zJ K D cl A nL Q (cells) (slots) (σ) (pc + 3) (lv) (jv a :: st)) : zJ K D cl A nL Q (cells) (slots) (σ) (pc) (lv) (st) := by
  obtain ⟨p, l, e, R, s, m, args, below, meth, c⟩ := K
  intro H locs ls hG hS hL
  exact lv_ldc2 C.1 C.2.1 C.2.2.2.1 (C.2.2.2.2.1 _ hw) hd (k H locs ls hG hS hL)
theorem z_ldc (C : zCx K D cl A tys F rm cc own nm Ts nL ret) {index : Nat} (a : Int) (hw : Cond.constant own index (Int32.ofInt a) ∈ Ts) (hd : decode cc pc = .ok (.ldc index, 2)) (k : zJ K D cl A nL Q (cells) (slots) (σ) (pc + 2) (lv) (iv a :: st)) : zJ K D cl A nL Q (cells) (slots) (σ) (pc) (lv) (st) := by
  obtain ⟨p, l, e, R, s, m, args, below, meth, c⟩ := K
  intro H locs ls hG hS hL
  exact lv_ldc C.1 C.2.1 C.2.2.2.1 (C.2.2.2.2.1 _ hw) hd (k H locs ls hG hS hL)
theorem z_null (C : zCx K D cl A tys F rm cc own nm Ts nL ret) (hd : decode cc pc = .ok (.aconst_null, 1)) (k : zJ K D cl A nL Q (cells) (slots) (σ) (pc + 1) (lv) (.null :: st)) : zJ K D cl A nL Q (cells) (slots) (σ) (pc) (lv) (st) := by
  obtain ⟨p, l, e, R, s, m, args, below, meth, c⟩ := K
  intro H locs ls hG hS hL
  exact lv_null C.1 C.2.1 hd (k H locs ls hG hS hL)
theorem z_iload_n (C : zCx K D cl A tys F rm cc own nm Ts nL ret) {k : Fin 4} {a : Int} (hd : decode cc pc = .ok (.iload_n k, 1)) (hl : lv[(k : Nat)]? = some (some (iv a))) (kk : zJ K D cl A nL Q (cells) (slots) (σ) (pc + 1) (lv) (iv a :: st)) : zJ K D cl A nL Q (cells) (slots) (σ) (pc) (lv) (st) := by
  obtain ⟨p, l, e, R, s, m, args, below, meth, c⟩ := K
  intro H locs ls hG hS hL
  exact lv_iload_n C.1 C.2.1 hd rfl (hL.2.2.2 _ _ hl) (kk H locs ls hG hS hL)
theorem z_iload (C : zCx K D cl A tys F rm cc own nm Ts nL ret) {i : Nat} {a : Int} (hd : decode cc pc = .ok (.iload i, 2)) (hl : lv[i]? = some (some (iv a))) (kk : zJ K D cl A nL Q (cells) (slots) (σ) (pc + 2) (lv) (iv a :: st)) : zJ K D cl A nL Q (cells) (slots) (σ) (pc) (lv) (st) := by
  obtain ⟨p, l, e, R, s, m, args, below, meth, c⟩ := K
  intro H locs ls hG hS hL
  exact lv_iload C.1 C.2.1 hd (hL.2.2.2 _ _ hl) (kk H locs ls hG hS hL)
theorem z_lload_n (C : zCx K D cl A tys F rm cc own nm Ts nL ret) {k : Fin 4} {a : Int} (hd : decode cc pc = .ok (.lload_n k, 1)) (hl : lv[(k : Nat)]? = some (some (jv a))) (kk : zJ K D cl A nL Q (cells) (slots) (σ) (pc + 1) (lv) (jv a :: st)) : zJ K D cl A nL Q (cells) (slots) (σ) (pc) (lv) (st) := by
  obtain ⟨p, l, e, R, s, m, args, below, meth, c⟩ := K
  intro H locs ls hG hS hL
  exact lv_lload_n C.1 C.2.1 hd rfl (hL.2.2.2 _ _ hl) (kk H locs ls hG hS hL)
theorem z_lload (C : zCx K D cl A tys F rm cc own nm Ts nL ret) {i : Nat} {a : Int} (hd : decode cc pc = .ok (.lload i, 2)) (hl : lv[i]? = some (some (jv a))) (kk : zJ K D cl A nL Q (cells) (slots) (σ) (pc + 2) (lv) (jv a :: st)) : zJ K D cl A nL Q (cells) (slots) (σ) (pc) (lv) (st) := by
  obtain ⟨p, l, e, R, s, m, args, below, meth, c⟩ := K
  intro H locs ls hG hS hL
  exact lv_lload C.1 C.2.1 hd (hL.2.2.2 _ _ hl) (kk H locs ls hG hS hL)
theorem z_aload_n (C : zCx K D cl A tys F rm cc own nm Ts nL ret) {k : Fin 4} {x : Nat} (hd : decode cc pc = .ok (.aload_n k, 1)) (hl : lv[(k : Nat)]? = some (some (.ref x))) (kk : zJ K D cl A nL Q (cells) (slots) (σ) (pc + 1) (lv) (.ref x :: st)) : zJ K D cl A nL Q (cells) (slots) (σ) (pc) (lv) (st) := by
  obtain ⟨p, l, e, R, s, m, args, below, meth, c⟩ := K
  intro H locs ls hG hS hL
  exact lv_aload_n C.1 C.2.1 hd rfl (hL.2.2.2 _ _ hl) (kk H locs ls hG hS hL)
theorem z_aload (C : zCx K D cl A tys F rm cc own nm Ts nL ret) {i : Nat} {x : Nat} (hd : decode cc pc = .ok (.aload i, 2)) (hl : lv[i]? = some (some (.ref x))) (kk : zJ K D cl A nL Q (cells) (slots) (σ) (pc + 2) (lv) (.ref x :: st)) : zJ K D cl A nL Q (cells) (slots) (σ) (pc) (lv) (st) := by
  obtain ⟨p, l, e, R, s, m, args, below, meth, c⟩ := K
  intro H locs ls hG hS hL
  exact lv_aload C.1 C.2.1 hd (hL.2.2.2 _ _ hl) (kk H locs ls hG hS hL)
theorem z_aload_nN (C : zCx K D cl A tys F rm cc own nm Ts nL ret) {k : Fin 4} (hd : decode cc pc = .ok (.aload_n k, 1)) (hl : lv[(k : Nat)]? = some (some .null)) (kk : zJ K D cl A nL Q (cells) (slots) (σ) (pc + 1) (lv) (.null :: st)) : zJ K D cl A nL Q (cells) (slots) (σ) (pc) (lv) (st) := by
  obtain ⟨p, l, e, R, s, m, args, below, meth, c⟩ := K
  intro H locs ls hG hS hL
  exact lv_aload_nN C.1 C.2.1 hd rfl (hL.2.2.2 _ _ hl) (kk H locs ls hG hS hL)
theorem z_aloadN (C : zCx K D cl A tys F rm cc own nm Ts nL ret) {i : Nat} (hd : decode cc pc = .ok (.aload i, 2)) (hl : lv[i]? = some (some .null)) (kk : zJ K D cl A nL Q (cells) (slots) (σ) (pc + 2) (lv) (.null :: st)) : zJ K D cl A nL Q (cells) (slots) (σ) (pc) (lv) (st) := by
  obtain ⟨p, l, e, R, s, m, args, below, meth, c⟩ := K
  intro H locs ls hG hS hL
  exact lv_aloadN C.1 C.2.1 hd (hL.2.2.2 _ _ hl) (kk H locs ls hG hS hL)
theorem z_istore_n (C : zCx K D cl A tys F rm cc own nm Ts nL ret) {k : Fin 4} {a : Int} (hd : decode cc pc = .ok (.istore_n k, 1)) (hn : (k : Nat) < nL) (kk : zJ K D cl A nL Q (cells) (slots) (σ) (pc + 1) (zst1 lv k (iv a)) (st)) : zJ K D cl A nL Q (cells) (slots) (σ) (pc) (lv) (iv a :: st) := by
  obtain ⟨p, l, e, R, s, m, args, below, meth, c⟩ := K
  intro H locs ls hG hS hL
  exact lv_istore_n C.1 C.2.1 hd rfl hL.has hn rfl (fun ls hl => kk H locs ls hG hS (zst1_ok hL.2.2.1 hl))
theorem z_istore (C : zCx K D cl A tys F rm cc own nm Ts nL ret) {i : Nat} {a : Int} (hd : decode cc pc = .ok (.istore i, 2)) (hn : i < nL) (kk : zJ K D cl A nL Q (cells) (slots) (σ) (pc + 2) (zst1 lv i (iv a)) (st)) : zJ K D cl A nL Q (cells) (slots) (σ) (pc) (lv) (iv a :: st) := by
  obtain ⟨p, l, e, R, s, m, args, below, meth, c⟩ := K
  intro H locs ls hG hS hL
  exact lv_istore C.1 C.2.1 hd hL.has hn rfl (fun ls hl => kk H locs ls hG hS (zst1_ok hL.2.2.1 hl))
theorem z_lstore_n (C : zCx K D cl A tys F rm cc own nm Ts nL ret) {k : Fin 4} {a : Int} (hd : decode cc pc = .ok (.lstore_n k, 1)) (hn : (k : Nat) + 1 < nL) (kk : zJ K D cl A nL Q (cells) (slots) (σ) (pc + 1) (zst2 lv k (jv a)) (st)) : zJ K D cl A nL Q (cells) (slots) (σ) (pc) (lv) (jv a :: st) := by
  obtain ⟨p, l, e, R, s, m, args, below, meth, c⟩ := K
  intro H locs ls hG hS hL
  exact lv_lstore_n C.1 C.2.1 hd rfl hL.has hn rfl (fun ls hl => kk H locs ls hG hS (zst2_ok hL.2.2.1 hl))
theorem z_lstore (C : zCx K D cl A tys F rm cc own nm Ts nL ret) {i : Nat} {a : Int} (hd : decode cc pc = .ok (.lstore i, 2)) (hn : i + 1 < nL) (kk : zJ K D cl A nL Q (cells) (slots) (σ) (pc + 2) (zst2 lv i (jv a)) (st)) : zJ K D cl A nL Q (cells) (slots) (σ) (pc) (lv) (jv a :: st) := by
  obtain ⟨p, l, e, R, s, m, args, below, meth, c⟩ := K
  intro H locs ls hG hS hL
  exact lv_lstore C.1 C.2.1 hd hL.has hn rfl (fun ls hl => kk H locs ls hG hS (zst2_ok hL.2.2.1 hl))
theorem z_astore_n (C : zCx K D cl A tys F rm cc own nm Ts nL ret) {k : Fin 4} {x : Nat} (hd : decode cc pc = .ok (.astore_n k, 1)) (hn : (k : Nat) < nL) (kk : zJ K D cl A nL Q (cells) (slots) (σ) (pc + 1) (zst1 lv k (.ref x)) (st)) : zJ K D cl A nL Q (cells) (slots) (σ) (pc) (lv) (.ref x :: st) := by
  obtain ⟨p, l, e, R, s, m, args, below, meth, c⟩ := K
  intro H locs ls hG hS hL
  exact lv_astore_n C.1 C.2.1 hd rfl hL.has hn rfl (fun ls hl => kk H locs ls hG hS (zst1_ok hL.2.2.1 hl))
theorem z_astore (C : zCx K D cl A tys F rm cc own nm Ts nL ret) {i : Nat} {x : Nat} (hd : decode cc pc = .ok (.astore i, 2)) (hn : i < nL) (kk : zJ K D cl A nL Q (cells) (slots) (σ) (pc + 2) (zst1 lv i (.ref x)) (st)) : zJ K D cl A nL Q (cells) (slots) (σ) (pc) (lv) (.ref x :: st) := by
  obtain ⟨p, l, e, R, s, m, args, below, meth, c⟩ := K
  intro H locs ls hG hS hL
  exact lv_astore C.1 C.2.1 hd hL.has hn rfl (fun ls hl => kk H locs ls hG hS (zst1_ok hL.2.2.1 hl))
theorem z_astore_nN (C : zCx K D cl A tys F rm cc own nm Ts nL ret) {k : Fin 4} (hd : decode cc pc = .ok (.astore_n k, 1)) (hn : (k : Nat) < nL) (kk : zJ K D cl A nL Q (cells) (slots) (σ) (pc + 1) (zst1 lv k .null) (st)) : zJ K D cl A nL Q (cells) (slots) (σ) (pc) (lv) (.null :: st) := by
  obtain ⟨p, l, e, R, s, m, args, below, meth, c⟩ := K
  intro H locs ls hG hS hL
  exact lv_astore_nN C.1 C.2.1 hd rfl hL.has hn rfl (fun ls hl => kk H locs ls hG hS (zst1_ok hL.2.2.1 hl))
theorem z_astoreN (C : zCx K D cl A tys F rm cc own nm Ts nL ret) {i : Nat} (hd : decode cc pc = .ok (.astore i, 2)) (hn : i < nL) (kk : zJ K D cl A nL Q (cells) (slots) (σ) (pc + 2) (zst1 lv i .null) (st)) : zJ K D cl A nL Q (cells) (slots) (σ) (pc) (lv) (.null :: st) := by
  obtain ⟨p, l, e, R, s, m, args, below, meth, c⟩ := K
  intro H locs ls hG hS hL
  exact lv_astoreN C.1 C.2.1 hd hL.has hn rfl (fun ls hl => kk H locs ls hG hS (zst1_ok hL.2.2.1 hl))
theorem z_iinc (C : zCx K D cl A tys F rm cc own nm Ts nL ret) {i : Nat} {n a : Int} (hd : decode cc pc = .ok (.iinc i n, 3)) (hl : lv[i]? = some (some (iv a))) (hn : i < nL) (kk : zJ K D cl A nL Q (cells) (slots) (σ) (pc + 3) (zst1 lv i (iv (a + n))) (st)) : zJ K D cl A nL Q (cells) (slots) (σ) (pc) (lv) (st) := by
  obtain ⟨p, l, e, R, s, m, args, below, meth, c⟩ := K
  intro H locs ls hG hS hL
  obtain ⟨j, hj⟩ := List.getElem?_of_mem (zas_mem.mpr hl)
  exact lv_iinc (v := Int32.ofInt (a + n)) C.1 C.2.1 hd hL.has hj (Int32.ofInt_add a n).symm hn rfl (fun ls hl => kk H locs ls hG hS (zst1_ok hL.2.2.1 hl))
theorem z_iadd (C : zCx K D cl A tys F rm cc own nm Ts nL ret) {a b : Int} (hd : decode cc pc = .ok (.iadd, 1)) (k : zJ K D cl A nL Q (cells) (slots) (σ) (pc + 1) (lv) (iv (a + b) :: st)) : zJ K D cl A nL Q (cells) (slots) (σ) (pc) (lv) (iv b :: iv a :: st) := by
  obtain ⟨p, l, e, R, s, m, args, below, meth, c⟩ := K
  intro H locs ls hG hS hL
  have k := k H locs ls hG hS hL
  rw [show iv (a + b) = .int (Int32.ofInt a + Int32.ofInt b) from congrArg Value.int (Int32.ofInt_add a b)] at k
  exact lv_iadd C.1 C.2.1 hd k
theorem z_isub (C : zCx K D cl A tys F rm cc own nm Ts nL ret) {a b : Int} (hd : decode cc pc = .ok (.isub, 1)) (k : zJ K D cl A nL Q (cells) (slots) (σ) (pc + 1) (lv) (iv (a - b) :: st)) : zJ K D cl A nL Q (cells) (slots) (σ) (pc) (lv) (iv b :: iv a :: st) := by
  obtain ⟨p, l, e, R, s, m, args, below, meth, c⟩ := K
  intro H locs ls hG hS hL
  have k := k H locs ls hG hS hL
  rw [show iv (a - b) = .int (Int32.ofInt a - Int32.ofInt b) from congrArg Value.int (Int32.ofInt_sub a b)] at k
  exact lv_isub C.1 C.2.1 hd k
theorem z_imul (C : zCx K D cl A tys F rm cc own nm Ts nL ret) {a b : Int} (hd : decode cc pc = .ok (.imul, 1)) (k : zJ K D cl A nL Q (cells) (slots) (σ) (pc + 1) (lv) (iv (a * b) :: st)) : zJ K D cl A nL Q (cells) (slots) (σ) (pc) (lv) (iv b :: iv a :: st) := by
  obtain ⟨p, l, e, R, s, m, args, below, meth, c⟩ := K
  intro H locs ls hG hS hL
  have k := k H locs ls hG hS hL
  rw [show iv (a * b) = .int (Int32.ofInt a * Int32.ofInt b) from congrArg Value.int (Int32.ofInt_mul a b)] at k
  exact lv_imul C.1 C.2.1 hd k
theorem z_ladd (C : zCx K D cl A tys F rm cc own nm Ts nL ret) {a b : Int} (hd : decode cc pc = .ok (.ladd, 1)) (k : zJ K D cl A nL Q (cells) (slots) (σ) (pc + 1) (lv) (jv (a + b) :: st)) : zJ K D cl A nL Q (cells) (slots) (σ) (pc) (lv) (jv b :: jv a :: st) := by
  obtain ⟨p, l, e, R, s, m, args, below, meth, c⟩ := K
  intro H locs ls hG hS hL
  have k := k H locs ls hG hS hL
  rw [show jv (a + b) = .long (Int64.ofInt a + Int64.ofInt b) from congrArg Value.long (Int64.ofInt_add a b)] at k
  exact lv_ladd C.1 C.2.1 hd k
theorem z_lsub (C : zCx K D cl A tys F rm cc own nm Ts nL ret) {a b : Int} (hd : decode cc pc = .ok (.lsub, 1)) (k : zJ K D cl A nL Q (cells) (slots) (σ) (pc + 1) (lv) (jv (a - b) :: st)) : zJ K D cl A nL Q (cells) (slots) (σ) (pc) (lv) (jv b :: jv a :: st) := by
  obtain ⟨p, l, e, R, s, m, args, below, meth, c⟩ := K
  intro H locs ls hG hS hL
  have k := k H locs ls hG hS hL
  rw [show jv (a - b) = .long (Int64.ofInt a - Int64.ofInt b) from congrArg Value.long (Int64.ofInt_sub a b)] at k
  exact lv_lsub C.1 C.2.1 hd k
theorem z_lmul (C : zCx K D cl A tys F rm cc own nm Ts nL ret) {a b : Int} (hd : decode cc pc = .ok (.lmul, 1)) (k : zJ K D cl A nL Q (cells) (slots) (σ) (pc + 1) (lv) (jv (a * b) :: st)) : zJ K D cl A nL Q (cells) (slots) (σ) (pc) (lv) (jv b :: jv a :: st) := by
  obtain ⟨p, l, e, R, s, m, args, below, meth, c⟩ := K
  intro H locs ls hG hS hL
  have k := k H locs ls hG hS hL
  rw [show jv (a * b) = .long (Int64.ofInt a * Int64.ofInt b) from congrArg Value.long (Int64.ofInt_mul a b)] at k
  exact lv_lmul C.1 C.2.1 hd k
theorem z_iand (C : zCx K D cl A tys F rm cc own nm Ts nL ret) {x y : Int32} (hd : decode cc pc = .ok (.iand, 1)) (k : zJ K D cl A nL Q (cells) (slots) (σ) (pc + 1) (lv) (.int (x &&& y) :: st)) : zJ K D cl A nL Q (cells) (slots) (σ) (pc) (lv) (.int y :: .int x :: st) := by
  obtain ⟨p, l, e, R, s, m, args, below, meth, c⟩ := K
  intro H locs ls hG hS hL
  exact lv_iand C.1 C.2.1 hd (k H locs ls hG hS hL)
theorem z_ior (C : zCx K D cl A tys F rm cc own nm Ts nL ret) {x y : Int32} (hd : decode cc pc = .ok (.ior, 1)) (k : zJ K D cl A nL Q (cells) (slots) (σ) (pc + 1) (lv) (.int (x ||| y) :: st)) : zJ K D cl A nL Q (cells) (slots) (σ) (pc) (lv) (.int y :: .int x :: st) := by
  obtain ⟨p, l, e, R, s, m, args, below, meth, c⟩ := K
  intro H locs ls hG hS hL
  exact lv_ior C.1 C.2.1 hd (k H locs ls hG hS hL)
theorem z_ixor (C : zCx K D cl A tys F rm cc own nm Ts nL ret) {x y : Int32} (hd : decode cc pc = .ok (.ixor, 1)) (k : zJ K D cl A nL Q (cells) (slots) (σ) (pc + 1) (lv) (.int (x ^^^ y) :: st)) : zJ K D cl A nL Q (cells) (slots) (σ) (pc) (lv) (.int y :: .int x :: st) := by
  obtain ⟨p, l, e, R, s, m, args, below, meth, c⟩ := K
  intro H locs ls hG hS hL
  exact lv_ixor C.1 C.2.1 hd (k H locs ls hG hS hL)
theorem z_ishl (C : zCx K D cl A tys F rm cc own nm Ts nL ret) {x y : Int32} (hd : decode cc pc = .ok (.ishl, 1)) (k : zJ K D cl A nL Q (cells) (slots) (σ) (pc + 1) (lv) (.int (x <<< (y &&& 31)) :: st)) : zJ K D cl A nL Q (cells) (slots) (σ) (pc) (lv) (.int y :: .int x :: st) := by
  obtain ⟨p, l, e, R, s, m, args, below, meth, c⟩ := K
  intro H locs ls hG hS hL
  exact lv_ishl C.1 C.2.1 hd (k H locs ls hG hS hL)
theorem z_ishr (C : zCx K D cl A tys F rm cc own nm Ts nL ret) {x y : Int32} (hd : decode cc pc = .ok (.ishr, 1)) (k : zJ K D cl A nL Q (cells) (slots) (σ) (pc + 1) (lv) (.int (x >>> (y &&& 31)) :: st)) : zJ K D cl A nL Q (cells) (slots) (σ) (pc) (lv) (.int y :: .int x :: st) := by
  obtain ⟨p, l, e, R, s, m, args, below, meth, c⟩ := K
  intro H locs ls hG hS hL
  exact lv_ishr C.1 C.2.1 hd (k H locs ls hG hS hL)
theorem z_land (C : zCx K D cl A tys F rm cc own nm Ts nL ret) {x y : Int64} (hd : decode cc pc = .ok (.land, 1)) (k : zJ K D cl A nL Q (cells) (slots) (σ) (pc + 1) (lv) (.long (x &&& y) :: st)) : zJ K D cl A nL Q (cells) (slots) (σ) (pc) (lv) (.long y :: .long x :: st) := by
  obtain ⟨p, l, e, R, s, m, args, below, meth, c⟩ := K
  intro H locs ls hG hS hL
  exact lv_land C.1 C.2.1 hd (k H locs ls hG hS hL)
theorem z_lor (C : zCx K D cl A tys F rm cc own nm Ts nL ret) {x y : Int64} (hd : decode cc pc = .ok (.lor, 1)) (k : zJ K D cl A nL Q (cells) (slots) (σ) (pc + 1) (lv) (.long (x ||| y) :: st)) : zJ K D cl A nL Q (cells) (slots) (σ) (pc) (lv) (.long y :: .long x :: st) := by
  obtain ⟨p, l, e, R, s, m, args, below, meth, c⟩ := K
  intro H locs ls hG hS hL
  exact lv_lor C.1 C.2.1 hd (k H locs ls hG hS hL)
theorem z_lxor (C : zCx K D cl A tys F rm cc own nm Ts nL ret) {x y : Int64} (hd : decode cc pc = .ok (.lxor, 1)) (k : zJ K D cl A nL Q (cells) (slots) (σ) (pc + 1) (lv) (.long (x ^^^ y) :: st)) : zJ K D cl A nL Q (cells) (slots) (σ) (pc) (lv) (.long y :: .long x :: st) := by
  obtain ⟨p, l, e, R, s, m, args, below, meth, c⟩ := K
  intro H locs ls hG hS hL
  exact lv_lxor C.1 C.2.1 hd (k H locs ls hG hS hL)
theorem z_lshl (C : zCx K D cl A tys F rm cc own nm Ts nL ret) {x : Int64} {y : Int32} (hd : decode cc pc = .ok (.lshl, 1)) (k : zJ K D cl A nL Q (cells) (slots) (σ) (pc + 1) (lv) (.long (x <<< (y.toInt64 &&& 63)) :: st)) : zJ K D cl A nL Q (cells) (slots) (σ) (pc) (lv) (.int y :: .long x :: st) := by
  obtain ⟨p, l, e, R, s, m, args, below, meth, c⟩ := K
  intro H locs ls hG hS hL
  exact lv_lshl C.1 C.2.1 hd rfl (k H locs ls hG hS hL)
theorem z_lushr (C : zCx K D cl A tys F rm cc own nm Ts nL ret) {x : Int64} {y : Int32} (hd : decode cc pc = .ok (.lushr, 1)) (k : zJ K D cl A nL Q (cells) (slots) (σ) (pc + 1) (lv) (.long ((x.toUInt64 >>> (y.toInt64.toUInt64 &&& Int64.toUInt64 63)).toInt64) :: st)) : zJ K D cl A nL Q (cells) (slots) (σ) (pc) (lv) (.int y :: .long x :: st) := by
  obtain ⟨p, l, e, R, s, m, args, below, meth, c⟩ := K
  intro H locs ls hG hS hL
  exact lv_lushr C.1 C.2.1 hd rfl (k H locs ls hG hS hL)
theorem z_iushr (C : zCx K D cl A tys F rm cc own nm Ts nL ret) {x y : Int32} (hd : decode cc pc = .ok (.iushr, 1)) (k : zJ K D cl A nL Q (cells) (slots) (σ) (pc + 1) (lv) (.int ((x.toUInt32 >>> (y.toUInt32 &&& Int32.toUInt32 31)).toInt32) :: st)) : zJ K D cl A nL Q (cells) (slots) (σ) (pc) (lv) (.int y :: .int x :: st) := by
  obtain ⟨p, l, e, R, s, m, args, below, meth, c⟩ := K
  intro H locs ls hG hS hL
  exact lv_iushr C.1 C.2.1 hd rfl (k H locs ls hG hS hL)
theorem z_top {v w : Value} (h : v = w) (k : zJ K D cl A nL Q (cells) (slots) (σ) (pc) (lv) (w :: st)) : zJ K D cl A nL Q (cells) (slots) (σ) (pc) (lv) (v :: st) := by
  subst h; exact k
theorem z_top2 {v0 v w : Value} (h : v = w) (k : zJ K D cl A nL Q (cells) (slots) (σ) (pc) (lv) (v0 :: w :: st)) : zJ K D cl A nL Q (cells) (slots) (σ) (pc) (lv) (v0 :: v :: st) := by
  subst h; exact k
theorem z_i2l (C : zCx K D cl A tys F rm cc own nm Ts nL ret) {a : Int} (ra : -2147483648 ≤ a ∧ a ≤ 2147483647) (hd : decode cc pc = .ok (.i2l, 1)) (k : zJ K D cl A nL Q (cells) (slots) (σ) (pc + 1) (lv) (jv a :: st)) : zJ K D cl A nL Q (cells) (slots) (σ) (pc) (lv) (iv a :: st) := by
  obtain ⟨p, l, e, R, s, m, args, below, meth, c⟩ := K
  intro H locs ls hG hS hL
  refine lv_i2l (v := Int64.ofInt a) C.1 C.2.1 hd (Int64.toInt_inj.mp ?_) (k H locs ls hG hS hL)
  rw [Int32.toInt_toInt64, z32 ra, z64 (by omega)]
theorem z_l2i (C : zCx K D cl A tys F rm cc own nm Ts nL ret) {a : Int} (hd : decode cc pc = .ok (.l2i, 1)) (k : zJ K D cl A nL Q (cells) (slots) (σ) (pc + 1) (lv) (iv a :: st)) : zJ K D cl A nL Q (cells) (slots) (σ) (pc) (lv) (jv a :: st) := by
  obtain ⟨p, l, e, R, s, m, args, below, meth, c⟩ := K
  intro H locs ls hG hS hL
  exact lv_l2i C.1 C.2.1 hd Int64.toInt32_ofInt (k H locs ls hG hS hL)
theorem z_idiv (C : zCx K D cl A tys F rm cc own nm Ts nL ret) {a b : Int} (ra : 0 ≤ a ∧ a ≤ 2147483647) (rb : 0 < b ∧ b ≤ 2147483647) (hd : decode cc pc = .ok (.idiv, 1)) (k : zJ K D cl A nL Q (cells) (slots) (σ) (pc + 1) (lv) (iv (a / b) :: st)) : zJ K D cl A nL Q (cells) (slots) (σ) (pc) (lv) (iv b :: iv a :: st) := by
  obtain ⟨p, l, e, R, s, m, args, below, meth, c⟩ := K
  intro H locs ls hG hS hL
  have k := k H locs ls hG hS hL
  obtain ⟨x, rfl⟩ := Int.eq_ofNat_of_zero_le ra.1
  obtain ⟨y, rfl⟩ := Int.eq_ofNat_of_zero_le (Int.le_of_lt rb.1)
  have e1 : ∀ n : Nat, Int32.ofInt (n : Int) = nI n := fun n => rfl
  refine lv_idiv C.1 C.2.1 hd (fun q => ?_) ?_
  · rw [e1] at q; exact nI_ne0 (by omega) (by omega) q
  · rw [e1, e1, pk_div (by omega) (by omega) (by omega), ← e1]
    rw [show ((x / y : Nat) : Int) = (x : Int) / (y : Int) from by simp]
    exact k
theorem z_irem (C : zCx K D cl A tys F rm cc own nm Ts nL ret) {a b : Int} (ra : 0 ≤ a ∧ a ≤ 2147483647) (rb : 0 < b ∧ b ≤ 2147483647) (hd : decode cc pc = .ok (.irem, 1)) (k : zJ K D cl A nL Q (cells) (slots) (σ) (pc + 1) (lv) (iv (a % b) :: st)) : zJ K D cl A nL Q (cells) (slots) (σ) (pc) (lv) (iv b :: iv a :: st) := by
  obtain ⟨p, l, e, R, s, m, args, below, meth, c⟩ := K
  intro H locs ls hG hS hL
  have k := k H locs ls hG hS hL
  obtain ⟨x, rfl⟩ := Int.eq_ofNat_of_zero_le ra.1
  obtain ⟨y, rfl⟩ := Int.eq_ofNat_of_zero_le (Int.le_of_lt rb.1)
  have e1 : ∀ n : Nat, Int32.ofInt (n : Int) = nI n := fun n => rfl
  refine lv_irem C.1 C.2.1 hd (fun q => ?_) ?_
  · rw [e1] at q; exact nI_ne0 (by omega) (by omega) q
  · rw [e1, e1, pk_rem (by omega) (by omega) (by omega), ← e1]
    rw [show ((x % y : Nat) : Int) = (x : Int) % (y : Int) from by simp]
    exact k
theorem z_dup (C : zCx K D cl A tys F rm cc own nm Ts nL ret) {v : Value} (hv : v.category = 1) (hd : decode cc pc = .ok (.dup, 1)) (k : zJ K D cl A nL Q (cells) (slots) (σ) (pc + 1) (lv) (v :: v :: st)) : zJ K D cl A nL Q (cells) (slots) (σ) (pc) (lv) (v :: st) := by
  obtain ⟨p, l, e, R, s, m, args, below, meth, c⟩ := K
  intro H locs ls hG hS hL
  exact lv_dup C.1 C.2.1 hd hv (k H locs ls hG hS hL)
theorem z_pop (C : zCx K D cl A tys F rm cc own nm Ts nL ret) {v : Value} (hv : v.category = 1) (hd : decode cc pc = .ok (.pop, 1)) (k : zJ K D cl A nL Q (cells) (slots) (σ) (pc + 1) (lv) (st)) : zJ K D cl A nL Q (cells) (slots) (σ) (pc) (lv) (v :: st) := by
  obtain ⟨p, l, e, R, s, m, args, below, meth, c⟩ := K
  intro H locs ls hG hS hL
  exact lv_pop C.1 C.2.1 hd hv (k H locs ls hG hS hL)
theorem z_dup_x1 (C : zCx K D cl A tys F rm cc own nm Ts nL ret) {v w : Value} (hv : v.category = 1) (hw : w.category = 1) (hd : decode cc pc = .ok (.dup_x1, 1)) (k : zJ K D cl A nL Q (cells) (slots) (σ) (pc + 1) (lv) (v :: w :: v :: st)) : zJ K D cl A nL Q (cells) (slots) (σ) (pc) (lv) (v :: w :: st) := by
  obtain ⟨p, l, e, R, s, m, args, below, meth, c⟩ := K
  intro H locs ls hG hS hL
  exact lv_dup_x1 C.1 C.2.1 hd hv hw (k H locs ls hG hS hL)
theorem z_dup2 (C : zCx K D cl A tys F rm cc own nm Ts nL ret) {v w : Value} (hv : v.category = 1) (hw : w.category = 1) (hd : decode cc pc = .ok (.dup2, 1)) (k : zJ K D cl A nL Q (cells) (slots) (σ) (pc + 1) (lv) (v :: w :: v :: w :: st)) : zJ K D cl A nL Q (cells) (slots) (σ) (pc) (lv) (v :: w :: st) := by
  obtain ⟨p, l, e, R, s, m, args, below, meth, c⟩ := K
  intro H locs ls hG hS hL
  exact lv_dup2_11 C.1 C.2.1 hd hv hw (k H locs ls hG hS hL)
theorem z_pop2 (C : zCx K D cl A tys F rm cc own nm Ts nL ret) {v : Value} (hv : v.category = 2) (hd : decode cc pc = .ok (.pop2, 1)) (k : zJ K D cl A nL Q (cells) (slots) (σ) (pc + 1) (lv) (st)) : zJ K D cl A nL Q (cells) (slots) (σ) (pc) (lv) (v :: st) := by
  obtain ⟨p, l, e, R, s, m, args, below, meth, c⟩ := K
  intro H locs ls hG hS hL
  exact lv_pop2_2 C.1 C.2.1 hd hv (k H locs ls hG hS hL)
theorem z_icmp_eq (C : zCx K D cl A tys F rm cc own nm Ts nL ret) {a b : Int} {off : Int} (tgt : Nat) (ra : -2147483648 ≤ a ∧ a ≤ 2147483647) (rb : -2147483648 ≤ b ∧ b ≤ 2147483647) (hd : decode cc pc = .ok (.if_icmp .eq off, 3)) (ht : (pc : Int) + off = (tgt : Int)) (kt : a = b → zJ K D cl A nL Q (cells) (slots) (σ) (tgt) (lv) (st)) (kf : a ≠ b → zJ K D cl A nL Q (cells) (slots) (σ) (pc + 3) (lv) (st)) : zJ K D cl A nL Q (cells) (slots) (σ) (pc) (lv) (iv b :: iv a :: st) := by
  obtain ⟨p, l, e, R, s, m, args, below, meth, c⟩ := K
  intro H locs ls hG hS hL
  exact lv_icmp_eq C.1 C.2.1 hd ht (fun q => kt ((z32_eq ra rb).mp q) H locs ls hG hS hL) (fun q => kf (by have q2 : ¬ (a = b) := fun z => q ((z32_eq ra rb).mpr z); omega) H locs ls hG hS hL)
theorem z_icmp_lt (C : zCx K D cl A tys F rm cc own nm Ts nL ret) {a b : Int} {off : Int} (tgt : Nat) (ra : -2147483648 ≤ a ∧ a ≤ 2147483647) (rb : -2147483648 ≤ b ∧ b ≤ 2147483647) (hd : decode cc pc = .ok (.if_icmp .lt off, 3)) (ht : (pc : Int) + off = (tgt : Int)) (kt : a < b → zJ K D cl A nL Q (cells) (slots) (σ) (tgt) (lv) (st)) (kf : b ≤ a → zJ K D cl A nL Q (cells) (slots) (σ) (pc + 3) (lv) (st)) : zJ K D cl A nL Q (cells) (slots) (σ) (pc) (lv) (iv b :: iv a :: st) := by
  obtain ⟨p, l, e, R, s, m, args, below, meth, c⟩ := K
  intro H locs ls hG hS hL
  exact lv_icmp_lt C.1 C.2.1 hd ht (fun q => kt ((z32_lt ra rb).mp q) H locs ls hG hS hL) (fun q => kf (by have q2 : ¬ (a < b) := fun z => q ((z32_lt ra rb).mpr z); omega) H locs ls hG hS hL)
theorem z_icmp_ge (C : zCx K D cl A tys F rm cc own nm Ts nL ret) {a b : Int} {off : Int} (tgt : Nat) (ra : -2147483648 ≤ a ∧ a ≤ 2147483647) (rb : -2147483648 ≤ b ∧ b ≤ 2147483647) (hd : decode cc pc = .ok (.if_icmp .ge off, 3)) (ht : (pc : Int) + off = (tgt : Int)) (kt : b ≤ a → zJ K D cl A nL Q (cells) (slots) (σ) (tgt) (lv) (st)) (kf : a < b → zJ K D cl A nL Q (cells) (slots) (σ) (pc + 3) (lv) (st)) : zJ K D cl A nL Q (cells) (slots) (σ) (pc) (lv) (iv b :: iv a :: st) := by
  obtain ⟨p, l, e, R, s, m, args, below, meth, c⟩ := K
  intro H locs ls hG hS hL
  exact lv_icmp_ge C.1 C.2.1 hd ht (fun q => kt ((z32_le rb ra).mp q) H locs ls hG hS hL) (fun q => kf (by have q2 : ¬ (b ≤ a) := fun z => q ((z32_le rb ra).mpr z); omega) H locs ls hG hS hL)
theorem z_icmp_gt (C : zCx K D cl A tys F rm cc own nm Ts nL ret) {a b : Int} {off : Int} (tgt : Nat) (ra : -2147483648 ≤ a ∧ a ≤ 2147483647) (rb : -2147483648 ≤ b ∧ b ≤ 2147483647) (hd : decode cc pc = .ok (.if_icmp .gt off, 3)) (ht : (pc : Int) + off = (tgt : Int)) (kt : b < a → zJ K D cl A nL Q (cells) (slots) (σ) (tgt) (lv) (st)) (kf : a ≤ b → zJ K D cl A nL Q (cells) (slots) (σ) (pc + 3) (lv) (st)) : zJ K D cl A nL Q (cells) (slots) (σ) (pc) (lv) (iv b :: iv a :: st) := by
  obtain ⟨p, l, e, R, s, m, args, below, meth, c⟩ := K
  intro H locs ls hG hS hL
  exact lv_icmp_gt C.1 C.2.1 hd ht (fun q => kt ((z32_lt rb ra).mp q) H locs ls hG hS hL) (fun q => kf (by have q2 : ¬ (b < a) := fun z => q ((z32_lt rb ra).mpr z); omega) H locs ls hG hS hL)
theorem z_icmp_le (C : zCx K D cl A tys F rm cc own nm Ts nL ret) {a b : Int} {off : Int} (tgt : Nat) (ra : -2147483648 ≤ a ∧ a ≤ 2147483647) (rb : -2147483648 ≤ b ∧ b ≤ 2147483647) (hd : decode cc pc = .ok (.if_icmp .le off, 3)) (ht : (pc : Int) + off = (tgt : Int)) (kt : a ≤ b → zJ K D cl A nL Q (cells) (slots) (σ) (tgt) (lv) (st)) (kf : b < a → zJ K D cl A nL Q (cells) (slots) (σ) (pc + 3) (lv) (st)) : zJ K D cl A nL Q (cells) (slots) (σ) (pc) (lv) (iv b :: iv a :: st) := by
  obtain ⟨p, l, e, R, s, m, args, below, meth, c⟩ := K
  intro H locs ls hG hS hL
  exact lv_icmp_le C.1 C.2.1 hd ht (fun q => kt ((z32_le ra rb).mp q) H locs ls hG hS hL) (fun q => kf (by have q2 : ¬ (a ≤ b) := fun z => q ((z32_le ra rb).mpr z); omega) H locs ls hG hS hL)
theorem z_icmp_ne (C : zCx K D cl A tys F rm cc own nm Ts nL ret) {a b : Int} {off : Int} (tgt : Nat) (ra : -2147483648 ≤ a ∧ a ≤ 2147483647) (rb : -2147483648 ≤ b ∧ b ≤ 2147483647) (hd : decode cc pc = .ok (.if_icmp .ne off, 3)) (ht : (pc : Int) + off = (tgt : Int)) (kt : a ≠ b → zJ K D cl A nL Q (cells) (slots) (σ) (tgt) (lv) (st)) (kf : a = b → zJ K D cl A nL Q (cells) (slots) (σ) (pc + 3) (lv) (st)) : zJ K D cl A nL Q (cells) (slots) (σ) (pc) (lv) (iv b :: iv a :: st) := by
  obtain ⟨p, l, e, R, s, m, args, below, meth, c⟩ := K
  intro H locs ls hG hS hL
  exact lv_icmp_ne C.1 C.2.1 hd ht (fun q => kt (fun z => q (by rw [z])) H locs ls hG hS hL) (fun q => kf ((z32_eq ra rb).mp q) H locs ls hG hS hL)
theorem z_if_eq (C : zCx K D cl A tys F rm cc own nm Ts nL ret) {a : Int} {off : Int} (tgt : Nat) (ra : -2147483648 ≤ a ∧ a ≤ 2147483647) (hd : decode cc pc = .ok (.ifCond .eq off, 3)) (ht : (pc : Int) + off = (tgt : Int)) (kt : a = 0 → zJ K D cl A nL Q (cells) (slots) (σ) (tgt) (lv) (st)) (kf : a ≠ 0 → zJ K D cl A nL Q (cells) (slots) (σ) (pc + 3) (lv) (st)) : zJ K D cl A nL Q (cells) (slots) (σ) (pc) (lv) (iv a :: st) := by
  obtain ⟨p, l, e, R, s, m, args, below, meth, c⟩ := K
  intro H locs ls hG hS hL
  have e0 := z32_eq ra (b := 0) (by omega)
  rw [z32_0] at e0
  exact lv_if_eq C.1 C.2.1 hd ht (fun q => kt (e0.mp q) H locs ls hG hS hL) (fun q => kf (by have q2 : ¬ (a = 0) := fun z => q (e0.mpr z); omega) H locs ls hG hS hL)
theorem z_if_lt (C : zCx K D cl A tys F rm cc own nm Ts nL ret) {a : Int} {off : Int} (tgt : Nat) (ra : -2147483648 ≤ a ∧ a ≤ 2147483647) (hd : decode cc pc = .ok (.ifCond .lt off, 3)) (ht : (pc : Int) + off = (tgt : Int)) (kt : a < 0 → zJ K D cl A nL Q (cells) (slots) (σ) (tgt) (lv) (st)) (kf : 0 ≤ a → zJ K D cl A nL Q (cells) (slots) (σ) (pc + 3) (lv) (st)) : zJ K D cl A nL Q (cells) (slots) (σ) (pc) (lv) (iv a :: st) := by
  obtain ⟨p, l, e, R, s, m, args, below, meth, c⟩ := K
  intro H locs ls hG hS hL
  have e0 := z32_lt ra (b := 0) (by omega)
  rw [z32_0] at e0
  exact lv_if_lt C.1 C.2.1 hd ht (fun q => kt (e0.mp q) H locs ls hG hS hL) (fun q => kf (by have q2 : ¬ (a < 0) := fun z => q (e0.mpr z); omega) H locs ls hG hS hL)
theorem z_if_ge (C : zCx K D cl A tys F rm cc own nm Ts nL ret) {a : Int} {off : Int} (tgt : Nat) (ra : -2147483648 ≤ a ∧ a ≤ 2147483647) (hd : decode cc pc = .ok (.ifCond .ge off, 3)) (ht : (pc : Int) + off = (tgt : Int)) (kt : 0 ≤ a → zJ K D cl A nL Q (cells) (slots) (σ) (tgt) (lv) (st)) (kf : a < 0 → zJ K D cl A nL Q (cells) (slots) (σ) (pc + 3) (lv) (st)) : zJ K D cl A nL Q (cells) (slots) (σ) (pc) (lv) (iv a :: st) := by
  obtain ⟨p, l, e, R, s, m, args, below, meth, c⟩ := K
  intro H locs ls hG hS hL
  have e0 := z32_le (a := 0) (by omega) ra
  rw [z32_0] at e0
  exact lv_if_ge C.1 C.2.1 hd ht (fun q => kt (e0.mp q) H locs ls hG hS hL) (fun q => kf (by have q2 : ¬ (0 ≤ a) := fun z => q (e0.mpr z); omega) H locs ls hG hS hL)
theorem z_if_gt (C : zCx K D cl A tys F rm cc own nm Ts nL ret) {a : Int} {off : Int} (tgt : Nat) (ra : -2147483648 ≤ a ∧ a ≤ 2147483647) (hd : decode cc pc = .ok (.ifCond .gt off, 3)) (ht : (pc : Int) + off = (tgt : Int)) (kt : 0 < a → zJ K D cl A nL Q (cells) (slots) (σ) (tgt) (lv) (st)) (kf : a ≤ 0 → zJ K D cl A nL Q (cells) (slots) (σ) (pc + 3) (lv) (st)) : zJ K D cl A nL Q (cells) (slots) (σ) (pc) (lv) (iv a :: st) := by
  obtain ⟨p, l, e, R, s, m, args, below, meth, c⟩ := K
  intro H locs ls hG hS hL
  have e0 := z32_lt (a := 0) (by omega) ra
  rw [z32_0] at e0
  exact lv_if_gt C.1 C.2.1 hd ht (fun q => kt (e0.mp q) H locs ls hG hS hL) (fun q => kf (by have q2 : ¬ (0 < a) := fun z => q (e0.mpr z); omega) H locs ls hG hS hL)
theorem z_if_le (C : zCx K D cl A tys F rm cc own nm Ts nL ret) {a : Int} {off : Int} (tgt : Nat) (ra : -2147483648 ≤ a ∧ a ≤ 2147483647) (hd : decode cc pc = .ok (.ifCond .le off, 3)) (ht : (pc : Int) + off = (tgt : Int)) (kt : a ≤ 0 → zJ K D cl A nL Q (cells) (slots) (σ) (tgt) (lv) (st)) (kf : 0 < a → zJ K D cl A nL Q (cells) (slots) (σ) (pc + 3) (lv) (st)) : zJ K D cl A nL Q (cells) (slots) (σ) (pc) (lv) (iv a :: st) := by
  obtain ⟨p, l, e, R, s, m, args, below, meth, c⟩ := K
  intro H locs ls hG hS hL
  have e0 := z32_le ra (b := 0) (by omega)
  rw [z32_0] at e0
  exact lv_if_le C.1 C.2.1 hd ht (fun q => kt (e0.mp q) H locs ls hG hS hL) (fun q => kf (by have q2 : ¬ (a ≤ 0) := fun z => q (e0.mpr z); omega) H locs ls hG hS hL)
theorem z_if_ne (C : zCx K D cl A tys F rm cc own nm Ts nL ret) {a : Int} {off : Int} (tgt : Nat) (ra : -2147483648 ≤ a ∧ a ≤ 2147483647) (hd : decode cc pc = .ok (.ifCond .ne off, 3)) (ht : (pc : Int) + off = (tgt : Int)) (kt : a ≠ 0 → zJ K D cl A nL Q (cells) (slots) (σ) (tgt) (lv) (st)) (kf : a = 0 → zJ K D cl A nL Q (cells) (slots) (σ) (pc + 3) (lv) (st)) : zJ K D cl A nL Q (cells) (slots) (σ) (pc) (lv) (iv a :: st) := by
  obtain ⟨p, l, e, R, s, m, args, below, meth, c⟩ := K
  intro H locs ls hG hS hL
  have e0 := z32_eq ra (b := 0) (by omega)
  rw [z32_0] at e0
  exact lv_if_ne C.1 C.2.1 hd ht (fun q => kt (fun z => q (e0.mpr z)) H locs ls hG hS hL) (fun q => kf (e0.mp q) H locs ls hG hS hL)
theorem z_goto (C : zCx K D cl A tys F rm cc own nm Ts nL ret) {off : Int} (tgt : Nat) (hd : decode cc pc = .ok (.goto off, 3)) (ht : (pc : Int) + off = (tgt : Int)) (k : zJ K D cl A nL Q (cells) (slots) (σ) (tgt) (lv) (st)) : zJ K D cl A nL Q (cells) (slots) (σ) (pc) (lv) (st) := by
  obtain ⟨p, l, e, R, s, m, args, below, meth, c⟩ := K
  intro H locs ls hG hS hL
  exact lv_goto C.1 C.2.1 hd ht (k H locs ls hG hS hL)
theorem z_ifnull (C : zCx K D cl A tys F rm cc own nm Ts nL ret) {x : Nat} {off : Int} (hd : decode cc pc = .ok (.ifnull off, 3)) (k : zJ K D cl A nL Q (cells) (slots) (σ) (pc + 3) (lv) (st)) : zJ K D cl A nL Q (cells) (slots) (σ) (pc) (lv) (.ref x :: st) := by
  obtain ⟨p, l, e, R, s, m, args, below, meth, c⟩ := K
  intro H locs ls hG hS hL
  exact lv_ifnull C.1 C.2.1 hd (k H locs ls hG hS hL)
theorem z_ifnullN (C : zCx K D cl A tys F rm cc own nm Ts nL ret) {off : Int} (tgt : Nat) (hd : decode cc pc = .ok (.ifnull off, 3)) (ht : (pc : Int) + off = (tgt : Int)) (k : zJ K D cl A nL Q (cells) (slots) (σ) (tgt) (lv) (st)) : zJ K D cl A nL Q (cells) (slots) (σ) (pc) (lv) (.null :: st) := by
  obtain ⟨p, l, e, R, s, m, args, below, meth, c⟩ := K
  intro H locs ls hG hS hL
  exact lv_ifnullN C.1 C.2.1 hd ht (k H locs ls hG hS hL)
theorem z_ifnonnull (C : zCx K D cl A tys F rm cc own nm Ts nL ret) {x : Nat} {off : Int} (tgt : Nat) (hd : decode cc pc = .ok (.ifnonnull off, 3)) (ht : (pc : Int) + off = (tgt : Int)) (k : zJ K D cl A nL Q (cells) (slots) (σ) (tgt) (lv) (st)) : zJ K D cl A nL Q (cells) (slots) (σ) (pc) (lv) (.ref x :: st) := by
  obtain ⟨p, l, e, R, s, m, args, below, meth, c⟩ := K
  intro H locs ls hG hS hL
  exact lv_ifnonnull C.1 C.2.1 hd ht (k H locs ls hG hS hL)
theorem z_ifnonnullN (C : zCx K D cl A tys F rm cc own nm Ts nL ret) {off : Int} (hd : decode cc pc = .ok (.ifnonnull off, 3)) (k : zJ K D cl A nL Q (cells) (slots) (σ) (pc + 3) (lv) (st)) : zJ K D cl A nL Q (cells) (slots) (σ) (pc) (lv) (.null :: st) := by
  obtain ⟨p, l, e, R, s, m, args, below, meth, c⟩ := K
  intro H locs ls hG hS hL
  exact lv_ifnonnullN C.1 C.2.1 hd (k H locs ls hG hS hL)
theorem z_acmp_eq (C : zCx K D cl A tys F rm cc own nm Ts nL ret) {x y : Nat} {off : Int} (tgt : Nat) (hd : decode cc pc = .ok (.if_acmp .eq off, 3)) (ht : (pc : Int) + off = (tgt : Int)) (kt : x = y → zJ K D cl A nL Q (cells) (slots) (σ) (tgt) (lv) (st)) (kf : x ≠ y → zJ K D cl A nL Q (cells) (slots) (σ) (pc + 3) (lv) (st)) : zJ K D cl A nL Q (cells) (slots) (σ) (pc) (lv) (.ref y :: .ref x :: st) := by
  obtain ⟨p, l, e, R, s, m, args, below, meth, c⟩ := K
  intro H locs ls hG hS hL
  exact lv_acmp_eq (rx := some x) (ry := some y) C.1 C.2.1 hd ht (fun q => kt (Option.some.inj q) H locs ls hG hS hL) (fun q => kf (fun z => q (by rw [z])) H locs ls hG hS hL)
theorem z_acmp_ne (C : zCx K D cl A tys F rm cc own nm Ts nL ret) {x y : Nat} {off : Int} (tgt : Nat) (hd : decode cc pc = .ok (.if_acmp .ne off, 3)) (ht : (pc : Int) + off = (tgt : Int)) (kt : x ≠ y → zJ K D cl A nL Q (cells) (slots) (σ) (tgt) (lv) (st)) (kf : x = y → zJ K D cl A nL Q (cells) (slots) (σ) (pc + 3) (lv) (st)) : zJ K D cl A nL Q (cells) (slots) (σ) (pc) (lv) (.ref y :: .ref x :: st) := by
  obtain ⟨p, l, e, R, s, m, args, below, meth, c⟩ := K
  intro H locs ls hG hS hL
  exact lv_acmp_ne (rx := some x) (ry := some y) C.1 C.2.1 hd ht (fun q => kt (fun z => q (by rw [z])) H locs ls hG hS hL) (fun q => kf (Option.some.inj q) H locs ls hG hS hL)
theorem z_lcmp (C : zCx K D cl A tys F rm cc own nm Ts nL ret) {a b : Int} (ra : -9223372036854775808 ≤ a ∧ a ≤ 9223372036854775807) (rb : -9223372036854775808 ≤ b ∧ b ≤ 9223372036854775807) (hd : decode cc pc = .ok (.lcmp, 1)) (k : ∀ v : Int, (v = 1 ∧ b < a) ∨ (v = 0 ∧ a = b) ∨ (v = -1 ∧ a < b) → zJ K D cl A nL Q (cells) (slots) (σ) (pc + 1) (lv) (iv v :: st)) : zJ K D cl A nL Q (cells) (slots) (σ) (pc) (lv) (jv b :: jv a :: st) := by
  obtain ⟨p, l, e, R, s, m, args, below, meth, c⟩ := K
  intro H locs ls hG hS hL
  refine W.lcmp C.1 C.2.1 hd ?_
  by_cases h1 : b < a
  · rw [show lg_cmp (Int64.ofInt a) (Int64.ofInt b) = Int32.ofInt 1 from by simp [lg_cmp, (z64_lt rb ra).mpr h1]]
    exact k 1 (Or.inl ⟨rfl, h1⟩) H locs ls hG hS hL
  · by_cases h2 : a = b
    · subst h2
      rw [show lg_cmp (Int64.ofInt a) (Int64.ofInt a) = Int32.ofInt 0 from by simp [lg_cmp]]
      exact k 0 (Or.inr (Or.inl ⟨rfl, rfl⟩)) H locs ls hG hS hL
    · rw [show lg_cmp (Int64.ofInt a) (Int64.ofInt b) = Int32.ofInt (-1) from by simp [lg_cmp, mt (z64_lt rb ra).mp h1, mt (z64_eq ra rb).mp h2]]
      exact k (-1) (Or.inr (Or.inr ⟨rfl, by omega⟩)) H locs ls hG hS hL
theorem z_tableOut (C : zCx K D cl A tys F rm cc own nm Ts nL ret) {dflt lo hi : Int} {offs : Array Int} {len : Nat} {a : Int} (tgt : Nat) (ra : -2147483648 ≤ a ∧ a ≤ 2147483647) (hd : decode cc pc = .ok (.tableswitch dflt lo hi offs, len)) (h : a < lo ∨ hi < a) (ht : (pc : Int) + dflt = (tgt : Int)) (k : zJ K D cl A nL Q (cells) (slots) (σ) (tgt) (lv) (st)) : zJ K D cl A nL Q (cells) (slots) (σ) (pc) (lv) (iv a :: st) := by
  obtain ⟨p, l, e, R, s, m, args, below, meth, c⟩ := K
  intro H locs ls hG hS hL
  exact lv_tableOut C.1 C.2.1 hd (by rw [z32 ra]; exact h) ht (k H locs ls hG hS hL)
theorem z_tableIn (C : zCx K D cl A tys F rm cc own nm Ts nL ret) {dflt lo hi : Int} {offs : Array Int} {len : Nat} {a off : Int} (tgt : Nat) (ra : -2147483648 ≤ a ∧ a ≤ 2147483647) (hd : decode cc pc = .ok (.tableswitch dflt lo hi offs, len)) (h1 : ¬ a < lo) (h2 : ¬ hi < a) (ho : offs[(a - lo).toNat]? = some off) (ht : (pc : Int) + off = (tgt : Int)) (k : zJ K D cl A nL Q (cells) (slots) (σ) (tgt) (lv) (st)) : zJ K D cl A nL Q (cells) (slots) (σ) (pc) (lv) (iv a :: st) := by
  obtain ⟨p, l, e, R, s, m, args, below, meth, c⟩ := K
  intro H locs ls hG hS hL
  exact lv_tableIn C.1 C.2.1 hd (by rw [z32 ra]; exact h1) (by rw [z32 ra]; exact h2) (by rw [z32 ra]; exact ho) ht (k H locs ls hG hS hL)
theorem z_iald (C : zCx K D cl A tys F rm cc own nm Ts nL ret) {cA : ClassId} {n a : Nat} {f : Nat → Int} {i : Int} (t0 : Nat) (ht : tys[t0]? = some (cA, .int)) (h : σ a = some (ia cA n f)) (k : Nat) (hk : i = (k : Int)) (hn : k < n) (hm : n ≤ 2147483647) (hd : decode cc pc = .ok (.iaload, 1)) (kk : zJ K D cl A nL Q (cells) (slots) (σ) (pc + 1) (lv) (iv (f k) :: st)) : zJ K D cl A nL Q (cells) (slots) (σ) (pc) (lv) (iv i :: .ref a :: st) := by
  obtain ⟨p, l, e, R, s, m, args, below, meth, c⟩ := K
  intro H locs ls hG hS hL
  obtain ⟨ws, hP, hD, hW⟩ := id hG
  obtain ⟨j, hj⟩ := hW a _ h
  refine va_iald C.1 C.2.1 C.2.2.2.2.2.2.2.1 hP j t0 hj ht (zin hk (by omega) hn) hd ?_
  rw [zidx hk (by omega)]
  exact kk H locs ls hG hS hL
theorem z_zald (C : zCx K D cl A tys F rm cc own nm Ts nL ret) {cA : ClassId} {n a : Nat} {f : Nat → Int} {i : Int} (t0 : Nat) (ht : tys[t0]? = some (cA, .boolean)) (h : σ a = some (ia cA n f)) (k : Nat) (hk : i = (k : Int)) (hn : k < n) (hm : n ≤ 2147483647) (hd : decode cc pc = .ok (.baload, 1)) (kk : zJ K D cl A nL Q (cells) (slots) (σ) (pc + 1) (lv) (iv (f k) :: st)) : zJ K D cl A nL Q (cells) (slots) (σ) (pc) (lv) (iv i :: .ref a :: st) := by
  obtain ⟨p, l, e, R, s, m, args, below, meth, c⟩ := K
  intro H locs ls hG hS hL
  obtain ⟨ws, hP, hD, hW⟩ := id hG
  obtain ⟨j, hj⟩ := hW a _ h
  refine va_zald C.1 C.2.1 C.2.2.2.2.2.2.2.1 hP j t0 hj ht (zin hk (by omega) hn) hd ?_
  rw [zidx hk (by omega)]
  exact kk H locs ls hG hS hL
theorem z_lald (C : zCx K D cl A tys F rm cc own nm Ts nL ret) {cA : ClassId} {n a : Nat} {f : Nat → Int} {i : Int} (t0 : Nat) (ht : tys[t0]? = some (cA, .long)) (h : σ a = some (la cA n f)) (k : Nat) (hk : i = (k : Int)) (hn : k < n) (hm : n ≤ 2147483647) (hd : decode cc pc = .ok (.laload, 1)) (kk : zJ K D cl A nL Q (cells) (slots) (σ) (pc + 1) (lv) (jv (f k) :: st)) : zJ K D cl A nL Q (cells) (slots) (σ) (pc) (lv) (iv i :: .ref a :: st) := by
  obtain ⟨p, l, e, R, s, m, args, below, meth, c⟩ := K
  intro H locs ls hG hS hL
  obtain ⟨ws, hP, hD, hW⟩ := id hG
  obtain ⟨j, hj⟩ := hW a _ h
  refine va_lald C.1 C.2.1 C.2.2.2.2.2.2.2.1 hP j t0 hj ht (zin hk (by omega) hn) hd ?_
  rw [zidx hk (by omega)]
  exact kk H locs ls hG hS hL
theorem z_aald (C : zCx K D cl A tys F rm cc own nm Ts nL ret) {cA : ClassId} {n a : Nat} {f : Nat → Option Nat} {i : Int} {cn : String} (t0 : Nat) (ht : tys[t0]? = some (cA, .object cn)) (h : σ a = some (ra cA n f)) (k : Nat) (hk : i = (k : Int)) (hn : k < n) (hm : n ≤ 2147483647) (hd : decode cc pc = .ok (.aaload, 1)) (kk : zJ K D cl A nL Q (cells) (slots) (σ) (pc + 1) (lv) (va_rf (f k) :: st)) : zJ K D cl A nL Q (cells) (slots) (σ) (pc) (lv) (iv i :: .ref a :: st) := by
  obtain ⟨p, l, e, R, s, m, args, below, meth, c⟩ := K
  intro H locs ls hG hS hL
  obtain ⟨ws, hP, hD, hW⟩ := id hG
  obtain ⟨j, hj⟩ := hW a _ h
  refine va_aldq C.1 C.2.1 C.2.2.2.2.2.2.2.1 hP j t0 hj ht (zin hk (by omega) hn) hd ?_
  rw [zidx hk (by omega)]
  exact kk H locs ls hG hS hL
theorem z_iast (C : zCx K D cl A tys F rm cc own nm Ts nL ret) {cA : ClassId} {n a : Nat} {f : Nat → Int} {i v : Int} (t0 : Nat) (ht : tys[t0]? = some (cA, .int)) (h : σ a = some (ia cA n f)) (k : Nat) (hk : i = (k : Int)) (hn : k < n) (hm : n ≤ 2147483647) (hd : decode cc pc = .ok (.iastore, 1)) (kk : zJ K D cl A nL Q (cells) (slots) (zput σ a (ia cA n (iup f k v))) (pc + 1) (lv) (st)) : zJ K D cl A nL Q (cells) (slots) (σ) (pc) (lv) (iv v :: iv i :: .ref a :: st) := by
  obtain ⟨p, l, e, R, s, m, args, below, meth, c⟩ := K
  intro H locs ls hG hS hL
  obtain ⟨ws, hP, hD, hW⟩ := id hG
  obtain ⟨j, hj⟩ := hW a _ h
  refine va_iast C.1 C.2.1 C.2.2.2.2.2.2.2.1 hP hD hS j t0 hj ht (zin hk (by omega) hn) hd (fun H1 locs1 hP1 hD1 hS1 => ?_)
  rw [zidx hk (by omega), zup_i] at hP1 hD1
  exact kk H1 locs1 ls (zG.set hW hj hP1 hD1) hS1 hL
theorem z_zast (C : zCx K D cl A tys F rm cc own nm Ts nL ret) {cA : ClassId} {n a : Nat} {f : Nat → Int} {i v : Int} (t0 : Nat) (ht : tys[t0]? = some (cA, .boolean)) (h : σ a = some (ia cA n f)) (k : Nat) (hk : i = (k : Int)) (hn : k < n) (hm : n ≤ 2147483647) (hv : v = 0 ∨ v = 1) (hd : decode cc pc = .ok (.bastore, 1)) (kk : zJ K D cl A nL Q (cells) (slots) (zput σ a (ia cA n (iup f k v))) (pc + 1) (lv) (st)) : zJ K D cl A nL Q (cells) (slots) (σ) (pc) (lv) (iv v :: iv i :: .ref a :: st) := by
  obtain ⟨p, l, e, R, s, m, args, below, meth, c⟩ := K
  intro H locs ls hG hS hL
  obtain ⟨ws, hP, hD, hW⟩ := id hG
  obtain ⟨j, hj⟩ := hW a _ h
  refine va_zast C.1 C.2.1 C.2.2.2.2.2.2.2.1 hP hD hS j t0 hj ht (zin hk (by omega) hn) hd (fun H1 locs1 hP1 hD1 hS1 => ?_)
  rw [zidx hk (by omega), znar hv, zup_i] at hP1 hD1
  exact kk H1 locs1 ls (zG.set hW hj hP1 hD1) hS1 hL
theorem z_last (C : zCx K D cl A tys F rm cc own nm Ts nL ret) {cA : ClassId} {n a : Nat} {f : Nat → Int} {i v : Int} (t0 : Nat) (ht : tys[t0]? = some (cA, .long)) (h : σ a = some (la cA n f)) (k : Nat) (hk : i = (k : Int)) (hn : k < n) (hm : n ≤ 2147483647) (hd : decode cc pc = .ok (.lastore, 1)) (kk : zJ K D cl A nL Q (cells) (slots) (zput σ a (la cA n (iup f k v))) (pc + 1) (lv) (st)) : zJ K D cl A nL Q (cells) (slots) (σ) (pc) (lv) (jv v :: iv i :: .ref a :: st) := by
  obtain ⟨p, l, e, R, s, m, args, below, meth, c⟩ := K
  intro H locs ls hG hS hL
  obtain ⟨ws, hP, hD, hW⟩ := id hG
  obtain ⟨j, hj⟩ := hW a _ h
  refine va_last C.1 C.2.1 C.2.2.2.2.2.2.2.1 hP hD hS j t0 hj ht (zin hk (by omega) hn) hd (fun H1 locs1 hP1 hD1 hS1 => ?_)
  rw [zidx hk (by omega), zup_l] at hP1 hD1
  exact kk H1 locs1 ls (zG.set hW hj hP1 hD1) hS1 hL
theorem z_aast (C : zCx K D cl A tys F rm cc own nm Ts nL ret) {cA : ClassId} {n a b ci : Nat} {r : vw_C} {vs : List Value} {f : Nat → Option Nat} {i : Int} (t0 : Nat) (ht : tys[t0]? = some (cA, .object r.1)) (h : σ a = some (ra cA n f)) (hb : σ b = some (ob ci vs)) (hc : cl[ci]? = some r) (k : Nat) (hk : i = (k : Int)) (hn : k < n) (hm : n ≤ 2147483647) (hd : decode cc pc = .ok (.aastore, 1)) (kk : zJ K D cl A nL Q (cells) (slots) (zput σ a (ra cA n (va_up f k (some b)))) (pc + 1) (lv) (st)) : zJ K D cl A nL Q (cells) (slots) (σ) (pc) (lv) (.ref b :: iv i :: .ref a :: st) := by
  obtain ⟨p, l, e, R, s, m, args, below, meth, c⟩ := K
  intro H locs ls hG hS hL
  obtain ⟨ws, hP, hD, hW⟩ := id hG
  obtain ⟨j, hj⟩ := hW a _ h
  obtain ⟨jb, hjb⟩ := hW b _ hb
  refine va_astq C.1 C.2.1 C.2.2.2.2.2.2.2.1 hP hD hS j t0 jb ci hj ht hjb hc (zin hk (by omega) hn) hd (fun H1 locs1 hP1 hD1 hS1 => ?_)
  rw [zidx hk (by omega)] at hP1 hD1
  exact kk H1 locs1 ls (zG.set hW hj hP1 hD1) hS1 hL
theorem z_aastN (C : zCx K D cl A tys F rm cc own nm Ts nL ret) {cA : ClassId} {n a : Nat} {cn : String} {f : Nat → Option Nat} {i : Int} (t0 : Nat) (ht : tys[t0]? = some (cA, .object cn)) (h : σ a = some (ra cA n f)) (k : Nat) (hk : i = (k : Int)) (hn : k < n) (hm : n ≤ 2147483647) (hd : decode cc pc = .ok (.aastore, 1)) (kk : zJ K D cl A nL Q (cells) (slots) (zput σ a (ra cA n (va_up f k none))) (pc + 1) (lv) (st)) : zJ K D cl A nL Q (cells) (slots) (σ) (pc) (lv) (.null :: iv i :: .ref a :: st) := by
  obtain ⟨p, l, e, R, s, m, args, below, meth, c⟩ := K
  intro H locs ls hG hS hL
  obtain ⟨ws, hP, hD, hW⟩ := id hG
  obtain ⟨j, hj⟩ := hW a _ h
  refine va_astqN C.1 C.2.1 C.2.2.2.2.2.2.2.1 hP hD hS j t0 hj ht (zin hk (by omega) hn) hd (fun H1 locs1 hP1 hD1 hS1 => ?_)
  rw [zidx hk (by omega)] at hP1 hD1
  exact kk H1 locs1 ls (zG.set hW hj hP1 hD1) hS1 hL
theorem z_alen (C : zCx K D cl A tys F rm cc own nm Ts nL ret) {cA : ClassId} {x : vp_A} {a : Nat} {ty : FieldType} (t0 : Nat) (ht : tys[t0]? = some (cA, ty)) (h : σ a = some (.inl (cA, x))) (v : Int) (hv : Int32.ofNat x.1 = Int32.ofInt v) (hd : decode cc pc = .ok (.arraylength, 1)) (kk : zJ K D cl A nL Q (cells) (slots) (σ) (pc + 1) (lv) (iv v :: st)) : zJ K D cl A nL Q (cells) (slots) (σ) (pc) (lv) (.ref a :: st) := by
  obtain ⟨p, l, e, R, s, m, args, below, meth, c⟩ := K
  intro H locs ls hG hS hL
  obtain ⟨ws, hP, hD, hW⟩ := id hG
  obtain ⟨j, hj⟩ := hW a _ h
  exact va_alen C.1 C.2.1 C.2.2.2.2.2.2.2.1 hP j t0 hj ht hv hd (kk H locs ls hG hS hL)
theorem z_get (C : zCx K D cl A tys F rm cc own nm Ts nL ret) {ref cn : String} {T : u_T} {N ci index a : Nat} {fs : List Value} {v : Value} (hin : ∀ w ∈ u_ws cn T N, w ∈ Ts) (h : σ a = some (ob ci fs)) (hc : cl[ci]? = some (cn, T, N)) (k : Nat) (hk : k < N) (hl : Cond.fieldLink own index ref (T k).2.1 (T k).2.2.1 ∈ Ts) (hr : (T k).1 = ref) (hv : fs[k]? = some v) (hd : decode cc pc = .ok (.getfield index, 3)) (kk : zJ K D cl A nL Q (cells) (slots) (σ) (pc + 3) (lv) (v :: st)) : zJ K D cl A nL Q (cells) (slots) (σ) (pc) (lv) (.ref a :: st) := by
  obtain ⟨p, l, e, R, s, m, args, below, meth, c⟩ := K
  intro H locs ls hG hS hL
  obtain ⟨ws, hP, hD, hW⟩ := id hG
  obtain ⟨j, hj⟩ := hW a _ h
  exact va_get C.1 C.2.1 C.2.2.2.2.1 hin C.2.2.2.1 C.2.2.2.2.2.2.2.1 hP j hj hc k hk (C.2.2.2.2.1 _ hl) (fun x hx => by rw [← hr]; exact hx) hv hd (kk H locs ls hG hS hL)
theorem z_getN (C : zCx K D cl A tys F rm cc own nm Ts nL ret) {ref cn host : String} {T : u_T} {N ci index a : Nat} {fs : List Value} {v : Value} (hin : ∀ w ∈ u_ws cn T N, w ∈ Ts) (h : σ a = some (ob ci fs)) (hc : cl[ci]? = some (cn, T, N)) (k : Nat) (hk : k < N) (hl : ∀ s : State, F s → va_Nw (.fieldLinkNest own index ref (T k).2.1 (T k).2.2.1 host) s) (hr : (T k).1 = ref) (hv : fs[k]? = some v) (hd : decode cc pc = .ok (.getfield index, 3)) (kk : zJ K D cl A nL Q (cells) (slots) (σ) (pc + 3) (lv) (v :: st)) : zJ K D cl A nL Q (cells) (slots) (σ) (pc) (lv) (.ref a :: st) := by
  obtain ⟨p, l, e, R, s, m, args, below, meth, c⟩ := K
  intro H locs ls hG hS hL
  obtain ⟨ws, hP, hD, hW⟩ := id hG
  obtain ⟨j, hj⟩ := hW a _ h
  exact va_getN C.1 C.2.1 C.2.2.2.2.1 hin C.2.2.2.1 C.2.2.2.2.2.2.2.1 hP j hj hc k hk (va_Nw.use rfl (hl s C.2.2.2.2.2.2.2.2.2.1)) (fun x hx => by rw [← hr]; exact hx) hv hd (kk H locs ls hG hS hL)
theorem z_put (C : zCx K D cl A tys F rm cc own nm Ts nL ret) {ref cn : String} {T : u_T} {N ci index a : Nat} {fs : List Value} {ty : FieldType} {v : Value} (hin : ∀ w ∈ u_ws cn T N, w ∈ Ts) (ty0 : Nat → FieldType) (hty : ∀ k, k < N → parseFieldDescriptor (T k).2.2.1 = some (ty0 k)) (hnm : ∀ a, a < N → ∀ b, b < N → a ≠ b → (T a).2.1 ≠ (T b).2.1) (h : σ a = some (ob ci fs)) (hc : cl[ci]? = some (cn, T, N)) (k : Nat) (hk : k < N) (hl : Cond.fieldLink own index ref (T k).2.1 (T k).2.2.1 ∈ Ts) (hr : (T k).1 = ref) (hfin : (T k).2.2.2 = false) (hd9 : parseFieldDescriptor (T k).2.2.1 = some ty) (hnn : narrow ty v = v) (hfit : fits ty v = true) (hl9 : k < fs.length) (hd : decode cc pc = .ok (.putfield index, 3)) (kk : zJ K D cl A nL Q (cells) (slots) (zput σ a (ob ci (fs.set k v))) (pc + 3) (lv) (st)) : zJ K D cl A nL Q (cells) (slots) (σ) (pc) (lv) (v :: .ref a :: st) := by
  obtain ⟨p, l, e, R, s, m, args, below, meth, c⟩ := K
  intro H locs ls hG hS hL
  obtain ⟨ws, hP, hD, hW⟩ := id hG
  obtain ⟨j, hj⟩ := hW a _ h
  exact va_put C.1 C.2.1 C.2.2.2.2.1 hin ty0 hty hnm C.2.2.2.1 C.2.2.2.2.2.2.2.1 hP hD hS j hj hc k hk (C.2.2.2.2.1 _ hl) (fun x hx => by rw [← hr]; exact hx) hfin hd9 hnn hfit hl9 hd (fun H1 locs1 hP1 hD1 hS1 => kk H1 locs1 ls (zG.set hW hj hP1 hD1) hS1 hL)
theorem z_putN (C : zCx K D cl A tys F rm cc own nm Ts nL ret) {ref cn host : String} {T : u_T} {N ci index a : Nat} {fs : List Value} {ty : FieldType} {v : Value} (hin : ∀ w ∈ u_ws cn T N, w ∈ Ts) (ty0 : Nat → FieldType) (hty : ∀ k, k < N → parseFieldDescriptor (T k).2.2.1 = some (ty0 k)) (hnm : ∀ a, a < N → ∀ b, b < N → a ≠ b → (T a).2.1 ≠ (T b).2.1) (h : σ a = some (ob ci fs)) (hc : cl[ci]? = some (cn, T, N)) (k : Nat) (hk : k < N) (hl : ∀ s : State, F s → va_Nw (.fieldLinkNest own index ref (T k).2.1 (T k).2.2.1 host) s) (hr : (T k).1 = ref) (hfin : (T k).2.2.2 = false) (hd9 : parseFieldDescriptor (T k).2.2.1 = some ty) (hnn : narrow ty v = v) (hfit : fits ty v = true) (hl9 : k < fs.length) (hd : decode cc pc = .ok (.putfield index, 3)) (kk : zJ K D cl A nL Q (cells) (slots) (zput σ a (ob ci (fs.set k v))) (pc + 3) (lv) (st)) : zJ K D cl A nL Q (cells) (slots) (σ) (pc) (lv) (v :: .ref a :: st) := by
  obtain ⟨p, l, e, R, s, m, args, below, meth, c⟩ := K
  intro H locs ls hG hS hL
  obtain ⟨ws, hP, hD, hW⟩ := id hG
  obtain ⟨j, hj⟩ := hW a _ h
  exact va_putN C.1 C.2.1 C.2.2.2.2.1 hin ty0 hty hnm C.2.2.2.1 C.2.2.2.2.2.2.2.1 hP hD hS j hj hc k hk (va_Nw.use rfl (hl s C.2.2.2.2.2.2.2.2.2.1)) (fun x hx => by rw [← hr]; exact hx) hfin hd9 hnn hfit hl9 hd (fun H1 locs1 hP1 hD1 hS1 => kk H1 locs1 ls (zG.set hW hj hP1 hD1) hS1 hL)
end ZR
end
section
section ZS
variable {K : zC} {D : va_G} {cl : List vw_C} {A : Nat → Prop} {tys : List (ClassId × FieldType)} {F : State → Prop} {rm : Room} {cc : ByteArray} {own nm : String} {Ts : List Cond} {nL : Nat} {ret : Option FieldType} {Q : State → Prop} {cells slots pc : Nat} {σ : zh} {lv : List (Option Value)} {st : List Value}
theorem z_putF (C : zCx K D cl A tys F rm cc own nm Ts nL ret) {cn : String} {T : u_T} {N ci index a : Nat} {fs : List Value} {ty : FieldType} {v : Value} (hin : ∀ w ∈ u_ws cn T N, w ∈ Ts) (ty0 : Nat → FieldType) (hty : ∀ k, k < N → parseFieldDescriptor (T k).2.2.1 = some (ty0 k)) (hnm : ∀ a, a < N → ∀ b, b < N → a ≠ b → (T a).2.1 ≠ (T b).2.1) (h : σ a = some (ob ci fs)) (hc : cl[ci]? = some (cn, T, N)) (k : Nat) (hk : k < N) (hl : Cond.fieldLink own index own (T k).2.1 (T k).2.2.1 ∈ Ts) (hr : (T k).1 = own) (hfin : (T k).2.2.2 = true) (hin2 : nm = "<init>") (hd9 : parseFieldDescriptor (T k).2.2.1 = some ty) (hnn : narrow ty v = v) (hfit : fits ty v = true) (hl9 : k < fs.length) (hd : decode cc pc = .ok (.putfield index, 3)) (kk : zJ K D cl A nL Q (cells) (slots) (zput σ a (ob ci (fs.set k v))) (pc + 3) (lv) (st)) : zJ K D cl A nL Q (cells) (slots) (σ) (pc) (lv) (v :: .ref a :: st) := by
  obtain ⟨p, l, e, R, s, m, args, below, meth, c⟩ := K
  intro H locs ls hG hS hL
  obtain ⟨ws, hP, hD, hW⟩ := id hG
  obtain ⟨j, hj⟩ := hW a _ h
  exact va_putF C.1 C.2.1 C.2.2.2.2.1 hin ty0 hty hnm C.2.2.2.1 C.2.2.2.2.2.2.2.1 hP hD hS j hj hc k hk (C.2.2.2.2.1 _ hl) (fun x hx => by rw [← hr]; exact hx) hfin (C.2.2.2.2.2.2.2.2.2.2.2.2.trans hin2) hr hd9 hnn hfit hl9 hd (fun H1 locs1 hP1 hD1 hS1 => kk H1 locs1 ls (zG.set hW hj hP1 hD1) hS1 hL)
theorem z_new (C : zCx K D cl A tys F rm cc own nm Ts nL ret) {cn : String} {T : u_T} {N ci index : Nat} (hin : ∀ w ∈ u_ws cn T N, w ∈ Ts) (ty : Nat → FieldType) (hty : ∀ k, k < N → parseFieldDescriptor (T k).2.2.1 = some (ty k)) (hcl : Cond.classLink own index cn ∈ Ts) (hinst : Cond.instantiable cn N ∈ Ts) (hini : Cond.initialized cn ∈ Ts) (hc : cl[ci]? = some (cn, T, N)) {fs : List Value} (hfs : ∀ j, j < N → defaultValue (ty j) = vp_V fs j) (hcs : cells + 1 ≤ rm.cells) (hss : slots + N ≤ rm.slots) (hd : decode cc pc = .ok (.new index, 3)) (kk : ∀ q : Nat, (∀ (b : Nat) (x : va_E), σ b = some x → b ≠ q) → zJ K D cl A nL Q (cells + 1) (slots + N) (zput σ q (ob ci fs)) (pc + 3) (lv) (.ref q :: st)) : zJ K D cl A nL Q (cells) (slots) (σ) (pc) (lv) (st) := by
  obtain ⟨p, l, e, R, s, m, args, below, meth, c⟩ := K
  intro H locs ls hG hS hL
  obtain ⟨ws, hP, hD, hW⟩ := id hG
  have hR : R = rm := C.2.2.2.2.2.2.2.2.2.2.1
  refine va_new C.1 C.2.1 C.2.2.2.2.1 hin ty hty C.2.2.2.1 (C.2.2.2.2.1 _ hcl) (C.2.2.2.2.1 _ hinst) (C.2.2.2.2.1 _ hini) C.2.2.2.2.2.2.2.1 hP hD hS C.2.2.2.2.2.2.2.2.1 hc hfs (by rw [hR]; exact hcs) (by rw [hR]; exact hss) hd (fun q H1 hP1 hD1 hS1 => ?_)
  obtain ⟨g1, g2⟩ := zG.push hW hP1 hD1
  exact kk q g2 H1 locs ls g1 hS1 hL
theorem z_newi (C : zCx K D cl A tys F rm cc own nm Ts nL ret) {atype : ArrayType} {cA : ClassId} {i : Int} (t0 : Nat) (ht : tys[t0]? = some (cA, .int)) (harr : Cond.arrayClass .int ∈ Ts) (hty : newarray.typeOf atype = .int) (n : Nat) (hi : i = (n : Int)) (hn : n ≤ 1000000) (hcs : cells + 1 ≤ rm.cells) (hss : slots + n ≤ rm.slots) (hd : decode cc pc = .ok (.newarray atype, 2)) (kk : ∀ q : Nat, (∀ (b : Nat) (x : va_E), σ b = some x → b ≠ q) → zJ K D cl A nL Q (cells + 1) (slots + n) (zput σ q (ia cA n (fun _ => 0))) (pc + 2) (lv) (.ref q :: st)) : zJ K D cl A nL Q (cells) (slots) (σ) (pc) (lv) (iv i :: st) := by
  obtain ⟨p, l, e, R, s, m, args, below, meth, c⟩ := K
  intro H locs ls hG hS hL
  obtain ⟨ws, hP, hD, hW⟩ := id hG
  have hR : R = rm := C.2.2.2.2.2.2.2.2.2.2.1
  have hK := C.2.2.2.2.2.2.2.1
  refine va_newa (N' := n) (a0 := (n, .inl (fun _ => 0))) C.1 C.2.1 (by rw [hty]; exact C.2.2.2.2.1 _ harr) hty hK hP hD hS C.2.2.2.2.2.2.2.2.1 (fun cA => rfl) ?_ (zidx hi (by omega)) ?_ (by rw [hR]; exact hcs) (by rw [hR]; exact hss) hd (fun q cB H1 hK1 hP1 hD1 hS1 => ?_)
  · rw [← z32_0, z32_lt (by omega) (by omega)]; omega
  · have : componentBytes FieldType.int ≤ 8 := by decide
    exact Nat.le_trans (Nat.mul_le_mul hn this) (by decide)
  · have e1 := (hK.2 t0 _ ht).2
    have e2 := (hK1.2 tys.length (cB, .int) (by simp)).2
    have e3 : cB = cA := by
      have e4 : s.vm.findClass ("[" ++ (FieldType.int).toString) = some cA := e1
      have e5 : s.vm.findClass ("[" ++ (FieldType.int).toString) = some cB := e2
      exact Option.some.inj (e5.symm.trans e4)
    subst e3
    obtain ⟨g1, g2⟩ := zG.push hW hP1 hD1
    exact kk q g2 H1 locs ls g1 hS1 hL
theorem z_newz (C : zCx K D cl A tys F rm cc own nm Ts nL ret) {atype : ArrayType} {cA : ClassId} {i : Int} (t0 : Nat) (ht : tys[t0]? = some (cA, .boolean)) (harr : Cond.arrayClass .boolean ∈ Ts) (hty : newarray.typeOf atype = .boolean) (n : Nat) (hi : i = (n : Int)) (hn : n ≤ 1000000) (hcs : cells + 1 ≤ rm.cells) (hss : slots + n ≤ rm.slots) (hd : decode cc pc = .ok (.newarray atype, 2)) (kk : ∀ q : Nat, (∀ (b : Nat) (x : va_E), σ b = some x → b ≠ q) → zJ K D cl A nL Q (cells + 1) (slots + n) (zput σ q (ia cA n (fun _ => 0))) (pc + 2) (lv) (.ref q :: st)) : zJ K D cl A nL Q (cells) (slots) (σ) (pc) (lv) (iv i :: st) := by
  obtain ⟨p, l, e, R, s, m, args, below, meth, c⟩ := K
  intro H locs ls hG hS hL
  obtain ⟨ws, hP, hD, hW⟩ := id hG
  have hR : R = rm := C.2.2.2.2.2.2.2.2.2.2.1
  have hK := C.2.2.2.2.2.2.2.1
  refine va_newa (N' := n) (a0 := (n, .inl (fun _ => 0))) C.1 C.2.1 (by rw [hty]; exact C.2.2.2.2.1 _ harr) hty hK hP hD hS C.2.2.2.2.2.2.2.2.1 (fun cA => rfl) ?_ (zidx hi (by omega)) ?_ (by rw [hR]; exact hcs) (by rw [hR]; exact hss) hd (fun q cB H1 hK1 hP1 hD1 hS1 => ?_)
  · rw [← z32_0, z32_lt (by omega) (by omega)]; omega
  · have : componentBytes FieldType.boolean ≤ 8 := by decide
    exact Nat.le_trans (Nat.mul_le_mul hn this) (by decide)
  · have e1 := (hK.2 t0 _ ht).2
    have e2 := (hK1.2 tys.length (cB, .boolean) (by simp)).2
    have e3 : cB = cA := by
      have e4 : s.vm.findClass ("[" ++ (FieldType.boolean).toString) = some cA := e1
      have e5 : s.vm.findClass ("[" ++ (FieldType.boolean).toString) = some cB := e2
      exact Option.some.inj (e5.symm.trans e4)
    subst e3
    obtain ⟨g1, g2⟩ := zG.push hW hP1 hD1
    exact kk q g2 H1 locs ls g1 hS1 hL
theorem z_newl (C : zCx K D cl A tys F rm cc own nm Ts nL ret) {atype : ArrayType} {cA : ClassId} {i : Int} (t0 : Nat) (ht : tys[t0]? = some (cA, .long)) (harr : Cond.arrayClass .long ∈ Ts) (hty : newarray.typeOf atype = .long) (n : Nat) (hi : i = (n : Int)) (hn : n ≤ 1000000) (hcs : cells + 1 ≤ rm.cells) (hss : slots + n ≤ rm.slots) (hd : decode cc pc = .ok (.newarray atype, 2)) (kk : ∀ q : Nat, (∀ (b : Nat) (x : va_E), σ b = some x → b ≠ q) → zJ K D cl A nL Q (cells + 1) (slots + n) (zput σ q (la cA n (fun _ => 0))) (pc + 2) (lv) (.ref q :: st)) : zJ K D cl A nL Q (cells) (slots) (σ) (pc) (lv) (iv i :: st) := by
  obtain ⟨p, l, e, R, s, m, args, below, meth, c⟩ := K
  intro H locs ls hG hS hL
  obtain ⟨ws, hP, hD, hW⟩ := id hG
  have hR : R = rm := C.2.2.2.2.2.2.2.2.2.2.1
  have hK := C.2.2.2.2.2.2.2.1
  refine va_newa (N' := n) (a0 := (n, .inr (.inl (fun _ => 0)))) C.1 C.2.1 (by rw [hty]; exact C.2.2.2.2.1 _ harr) hty hK hP hD hS C.2.2.2.2.2.2.2.2.1 (fun cA => rfl) ?_ (zidx hi (by omega)) ?_ (by rw [hR]; exact hcs) (by rw [hR]; exact hss) hd (fun q cB H1 hK1 hP1 hD1 hS1 => ?_)
  · rw [← z32_0, z32_lt (by omega) (by omega)]; omega
  · have : componentBytes FieldType.long ≤ 8 := by decide
    exact Nat.le_trans (Nat.mul_le_mul hn this) (by decide)
  · have e1 := (hK.2 t0 _ ht).2
    have e2 := (hK1.2 tys.length (cB, .long) (by simp)).2
    have e3 : cB = cA := by
      have e4 : s.vm.findClass ("[" ++ (FieldType.long).toString) = some cA := e1
      have e5 : s.vm.findClass ("[" ++ (FieldType.long).toString) = some cB := e2
      exact Option.some.inj (e5.symm.trans e4)
    subst e3
    obtain ⟨g1, g2⟩ := zG.push hW hP1 hD1
    exact kk q g2 H1 locs ls g1 hS1 hL
theorem z_newa (C : zCx K D cl A tys F rm cc own nm Ts nL ret) {cA : ClassId} {cn : String} {i : Int} {index : Nat} (t0 : Nat) (ht : tys[t0]? = some (cA, .object cn)) (hcl : Cond.classLink own index cn ∈ Ts) (hov : ∀ s : State, F s → va_AO cn s) (n : Nat) (hi : i = (n : Int)) (hn : n ≤ 1000000) (hcs : cells + 1 ≤ rm.cells) (hss : slots + n ≤ rm.slots) (hd : decode cc pc = .ok (.anewarray index, 3)) (kk : ∀ q : Nat, (∀ (b : Nat) (x : va_E), σ b = some x → b ≠ q) → zJ K D cl A nL Q (cells + 1) (slots + n) (zput σ q (ra cA n (fun _ => none))) (pc + 3) (lv) (.ref q :: st)) : zJ K D cl A nL Q (cells) (slots) (σ) (pc) (lv) (iv i :: st) := by
  obtain ⟨p, l, e, R, s, m, args, below, meth, c⟩ := K
  intro H locs ls hG hS hL
  obtain ⟨ws, hP, hD, hW⟩ := id hG
  have hR : R = rm := C.2.2.2.2.2.2.2.2.2.2.1
  have hK := C.2.2.2.2.2.2.2.1
  refine va_newq (N' := n) C.1 C.2.1 C.2.2.2.1 (C.2.2.2.2.1 _ hcl) (hov s C.2.2.2.2.2.2.2.2.2.1) hK hP hD hS C.2.2.2.2.2.2.2.2.1 ?_ (zidx hi (by omega)) (by omega) (by rw [hR]; exact hcs) (by rw [hR]; exact hss) hd (fun q cB H1 hK1 hP1 hD1 hS1 => ?_)
  · rw [← z32_0, z32_lt (by omega) (by omega)]; omega
  · obtain ⟨k1, m1, a1, a2, a3, a4⟩ := (hK.2 t0 _ ht).2
    obtain ⟨k2, m2, b1, b2, b3, b4⟩ := (hK1.2 tys.length (cB, .object cn) (by simp)).2
    have e3 : cB = cA := Option.some.inj (b4.symm.trans a4)
    subst e3
    obtain ⟨g1, g2⟩ := zG.push hW hP1 hD1
    exact kk q g2 H1 locs ls g1 hS1 hL
theorem z_gets (C : zCx K D cl A tys F rm cc own nm Ts nL ret) {cn n d : String} {v : Value} {index : Nat} (hZ : ∀ s : State, F s → va_Z cn n d v A s s.heap) (hl : Cond.fieldLink own index cn n d ∈ Ts) (hd : decode cc pc = .ok (.getstatic index, 3)) (kk : zJ K D cl A nL Q (cells) (slots) (σ) (pc + 3) (lv) (v :: st)) : zJ K D cl A nL Q (cells) (slots) (σ) (pc) (lv) (st) := by
  obtain ⟨p, l, e, R, s, m, args, below, meth, c⟩ := K
  intro H locs ls hG hS hL
  exact va_gets C.1 C.2.1 (hZ s C.2.2.2.2.2.2.2.2.2.1) hS C.2.2.2.1 (C.2.2.2.2.1 _ hl) (fun _ h => h) hd (kk H locs ls hG hS hL)
theorem z_oinit (C : zCx K D cl A tys F rm cc own nm Ts nL ret) {idx a : Nat} (h1 : Cond.methodLink own idx objectInit ∈ Ts) (h2 : Cond.instanceMethod objectInit ∈ Ts) (h3 : Cond.code objectInit ⟨#[0xb1]⟩ 1 none ∈ Ts) (hd : decode cc pc = .ok (.invokespecial idx, 3)) (hf : 1 ≤ rm.frames) (hlo : 20 ≤ rm.locals) (hw : (st.map fun v => v.category).sum ≤ 8) (kk : zJ K D cl A nL Q (cells) (slots) (σ) (pc + 3) (lv) (st)) : zJ K D cl A nL Q (cells) (slots) (σ) (pc) (lv) (.ref a :: st) := by
  obtain ⟨p, l, e, R, s, m, args, below, meth, c⟩ := K
  intro H locs ls hG hS hL
  have hR : R = rm := C.2.2.2.2.2.2.2.2.2.2.1
  have hml : c.maxLocals = nL := C.2.2.1
  have hz := lv_room (m := m) (pc := pc) (ls := ls) (rest := Value.ref a :: st) hw
  refine W.objInit C.1 C.2.1 C.2.2.2.1 (C.2.2.2.2.1 _ h1) (C.2.2.2.2.1 _ h2) (C.2.2.2.2.1 _ h3) rfl (by rw [hml]; exact hL.1) rfl hd (by rw [hR]; exact hf) (by rw [hR]; omega) ?_
  exact kk H locs ls hG hS hL
theorem z_copyl (C : zCx K D cl A tys F rm cc own nm Ts nL ret) {index a0 a : Nat} {c0 c1 : ClassId} {n0 n1 : Nat} {f g : Nat → Int} {sp dp n : Int} (t0 t1 : Nat) (hl1 : Cond.methodLink own index arraycopyName ∈ Ts) (hl2 : Cond.native arraycopyName ∈ Ts) (hl3 : Cond.static arraycopyName ∈ Ts) (hl4 : Cond.initialized "java/lang/System" ∈ Ts) (ht0 : tys[t0]? = some (c0, .long)) (ht1 : tys[t1]? = some (c1, .long)) (h0 : σ a0 = some (la c0 n0 f)) (h : σ a = some (la c1 n1 g)) (x y z : Nat) (hx : sp = (x : Int)) (hy : dp = (y : Int)) (hz : n = (z : Int)) (hxy : x + z ≤ n0 ∧ y + z ≤ n1 ∧ n0 ≤ 100000 ∧ n1 ≤ 100000) (hfr : 1 ≤ rm.frames) (hlo : (st.map fun v => v.category).sum + (nativeFrameWords "java/lang/System" "arraycopy" 5 + 11) ≤ rm.locals) (hd : decode cc pc = .ok (.invokestatic index, 3)) (kk : zJ K D cl A nL Q (cells) (slots) (zput σ a (la c1 n1 (va_cpy f g x y z))) (pc + 3) (lv) (st)) : zJ K D cl A nL Q (cells) (slots) (σ) (pc) (lv) (iv n :: iv dp :: .ref a :: iv sp :: .ref a0 :: st) := by
  obtain ⟨p, l, e, R, s, m, args, below, meth, c⟩ := K
  intro H locs ls hG hS hL
  obtain ⟨ws, hP, hD, hW⟩ := id hG
  obtain ⟨j, hj⟩ := hW a _ h
  obtain ⟨j0, hj0⟩ := hW a0 _ h0
  have hR : R = rm := C.2.2.2.2.2.2.2.2.2.2.1
  have hml : c.maxLocals = nL := C.2.2.1
  have neg : ∀ {v : Int} {w : Nat}, v = (w : Int) → w ≤ 100000 → ¬ Int32.ofInt v < 0 := fun {v w} e1 e2 => by rw [← z32_0, z32_lt (by omega) (by omega)]; omega
  refine va_copyl C.1 C.2.1 (by rw [hml]; exact hL.1.symm) C.2.2.2.1 (C.2.2.2.2.1 _ hl1) (C.2.2.2.2.1 _ hl2) (C.2.2.2.2.1 _ hl3) (C.2.2.2.2.1 _ hl4) C.2.2.2.2.2.2.2.1 hP hD hS j0 j t0 t1 hj0 hj ht0 ht1 rfl (neg hx (by omega)) (neg hy (by omega)) (neg hz (by omega)) (by rw [zidx hx (by omega), zidx hz (by omega)]; exact hxy.1) (by rw [zidx hy (by omega), zidx hz (by omega)]; exact hxy.2.1) (fun i _ => rfl) (by rw [hR]; exact hfr) (by rw [hR]; exact hlo) hd (fun H1 locs1 hP1 hD1 hS1 => ?_)
  rw [zidx hx (by omega), zidx hy (by omega), zidx hz (by omega)] at hP1 hD1
  have e9 : va_cpy (fun j => Int64.ofInt (f j)) (fun j => Int64.ofInt (g j)) x y z = fun j => Int64.ofInt (va_cpy f g x y z j) := by
    funext q
    unfold va_cpy
    split <;> rfl
  rw [e9] at hP1 hD1
  exact kk H1 locs1 ls (zG.set hW hj hP1 hD1) hS1 hL
/-- behind a call -/
theorem z_run {post : Option Value → zh → Prop} {mc ms : Nat} {p : Program} {l : Launch} {e : Env} {R : Room} {s : State} {m : MethodId} {args : Array Value} {below : List Frame} {meth : Method} {c : Code} {H : Heap} {locs : List Loc} {ls : Array Slot} {st0 rest : List Value} {a : Array Value}
    (hS : va_S A s.heap H locs) (hL : zL ls nL lv) (hr : va_Run p l e R s m args below meth c H locs cells slots mc ms (F0 m pc ls st0) rest (zQc D cl A post a) A)
    (kk : ∀ (r : Option Value) (σ' : zh), post r σ' → zJ (p, l, e, R, s, m, args, below, meth, c) D cl A nL Q (cells + mc) (slots + ms) σ' (pc + 3) lv (r.toList ++ rest)) : W p l e R s m args below meth c H locs cells slots Q (F0 m pc ls st0) := by
  intro T hT X
  obtain ⟨v, st₀, t, T', L, h0, X', hL', e1, e2, ⟨⟨r, σ', hv, hp, hg⟩, hz, hk⟩, go⟩ := hr T hT X
  cases hv
  rw [h0] at hz hk
  obtain ⟨t2, a1, b1⟩ := kk v σ' hp T'.heap (locs ++ L) ls (by rw [e1]; exact hg)
    ⟨Nat.le_trans hS.1 (by rw [e1]; exact hz), fun q h1 h2 => by rw [e1, hk q (Nat.lt_of_lt_of_le h1 hS.1) h2]; exact hS.2.1 q h1 h2, fun q hq => by
      rcases List.mem_append.mp hq with h | h
      · exact hS.2.2 q h
      · exact hL' q h⟩ hL T' rfl X'
  exact ⟨t2, go t2 a1, b1⟩
theorem zPc_ok {s : State} {H : Heap} {locs : List Loc} {vals : List Value} (hF : zFok F A) (hA : ∀ q, s.heap.size ≤ q → A q) (hK : va_K D cl tys s) (hFs : F s) (hG : zG D cl A σ H) (hS : va_S A s.heap H locs) : PreS s H (zPc D cl A tys F vals σ) vals := by
  refine ⟨fun a U g mk q => ?_, fun U hU hW => ?_⟩
  · obtain ⟨q0, q1, q2, q3, q4⟩ := q
    exact ⟨q0, q1, va_K.moved (u := U) (U := U.calling g mk a) (Vm.Alike.refl U.vm) q2, hF.1 U g mk a q3, q4⟩
  · subst hU
    exact ⟨rfl, fun q h => hA q (Nat.le_trans hS.1 h), va_K.moved hW.alike hK, hF.2 s U hW hS.1 hS.2.1 hFs, hG⟩
theorem z_callS (C : zCx K D cl A tys F rm cc own nm Ts nL ret)  {l : Launch} {y : MethodName} {ws ws' : List Cond} {rm2 : Room} {As : List Value} {post : Option Value → zh → Prop} {bytes : ByteArray} {maxL index n : Nat} {ret2 : Option FieldType} (hKl : K.2.1 = l) (hM : zM l D cl A tys F y ws rm2 As σ post) (hG0 : GoodIn Ts ws) (hw : ws = Cond.code y bytes maxL ret2 :: ws') (hli : Cond.methodLink own index y ∈ Ts) (hsta : Cond.static y ∈ Ts) (hini : Cond.initialized y.cls ∈ Ts) (hd0 : y.cls ≠ "java/lang/invoke/MethodHandle" ∧ y.cls ≠ "java/lang/invoke/VarHandle" ∧ (parseMethodDescriptor y.desc).map (fun d => d.parameters.length) = some n) (hR2 : rm2.frames + 1 ≤ rm.frames ∧ 8 + (maxL + 11) + rm2.locals ≤ rm.locals) (hn : As.length = n) (hst : (st.map fun v => v.category).sum ≤ 8) (hf : cells + rm2.cells ≤ rm.cells ∧ slots + rm2.slots ≤ rm.slots) (hd : decode cc pc = .ok (.invokestatic index, 3)) (kk : ∀ (r : Option Value) (σ' : zh), post r σ' → zJ K D cl A nL Q (cells + rm2.cells) (slots + rm2.slots) (σ') (pc + 3) (lv) (r.toList ++ st)) : zJ K D cl A nL Q (cells) (slots) (σ) (pc) (lv) (As.reverse ++ st) := by
  obtain ⟨p, l, e, R, s, m, args, below, meth, c⟩ := K
  intro H locs ls hG hS hL
  have hR : R = rm := C.2.2.2.2.2.2.2.2.2.2.1
  have hml : c.maxLocals = nL := C.2.2.1
  subst hKl
  have hF : zFok F A := C.2.2.2.2.2.2.2.2.2.2.2.1
  have hp := fun vals => zPc_ok (vals := vals) hF C.2.2.2.2.2.2.2.2.1 C.2.2.2.2.2.2.2.1 C.2.2.2.2.2.2.2.2.2.1 hG hS
  refine z_run hS hL (va_runS (As := As) (rest := st) ⟨C.1, C.2.1, hml, C.2.2.2.1, C.2.2.2.2.1⟩ hM ⟨callB_of n C.2.2.2.2.1 hG0 hw rfl rfl (C.2.2.2.2.1 _ hini) (C.2.2.2.2.1 _ hli) hd0 (by rw [hR]; exact hR2), C.2.2.2.2.1 _ hsta⟩ (hp As) rfl hn hL.1 rfl (lv_room hst) hd (by rw [hR]; exact hf)) kk
theorem z_callV (C : zCx K D cl A tys F rm cc own nm Ts nL ret)  {l : Launch} {y : MethodName} {ws ws' : List Cond} {rm2 : Room} {As : List Value} {post : Option Value → zh → Prop} {bytes : ByteArray} {maxL index n : Nat} {ret2 : Option FieldType} (hKl : K.2.1 = l) {b : Nat} (hM : zM l D cl A tys F y ws rm2 (.ref b :: As) σ post) (hG0 : GoodIn Ts ws) (hw : ws = Cond.code y bytes maxL ret2 :: ws') {ci : Nat} {cn : String} {T : u_T} {N : Nat} {fs : List Value} (hb : σ b = some (ob ci fs)) (hc : cl[ci]? = some (cn, T, N)) (hli : Cond.methodLink own index y ∈ Ts) (hins : Cond.instanceMethod y ∈ Ts) (hsel : Cond.selects cn y y ∈ Ts) (hini : Cond.initialized y.cls ∈ Ts) (hd0 : y.cls ≠ "java/lang/invoke/MethodHandle" ∧ y.cls ≠ "java/lang/invoke/VarHandle" ∧ (parseMethodDescriptor y.desc).map (fun d => d.parameters.length) = some n) (hR2 : rm2.frames + 1 ≤ rm.frames ∧ 8 + (maxL + 11) + rm2.locals ≤ rm.locals) (hn : As.length = n) (hst : (st.map fun v => v.category).sum ≤ 8) (hf : cells + rm2.cells ≤ rm.cells ∧ slots + rm2.slots ≤ rm.slots) (hd : decode cc pc = .ok (.invokevirtual index, 3)) (kk : ∀ (r : Option Value) (σ' : zh), post r σ' → zJ K D cl A nL Q (cells + rm2.cells) (slots + rm2.slots) (σ') (pc + 3) (lv) (r.toList ++ st)) : zJ K D cl A nL Q (cells) (slots) (σ) (pc) (lv) (As.reverse ++ .ref b :: st) := by
  obtain ⟨p, l, e, R, s, m, args, below, meth, c⟩ := K
  intro H locs ls hG hS hL
  have hR : R = rm := C.2.2.2.2.2.2.2.2.2.2.1
  have hml : c.maxLocals = nL := C.2.2.1
  subst hKl
  have hF : zFok F A := C.2.2.2.2.2.2.2.2.2.2.2.1
  have hp := fun vals => zPc_ok (vals := vals) hF C.2.2.2.2.2.2.2.2.1 C.2.2.2.2.2.2.2.1 C.2.2.2.2.2.2.2.2.2.1 hG hS
  have hrc : ∃ cellB : Cell, H[b]? = some cellB ∧ cellB.vm.isStatics = false ∧ s.vm.findClass cn = some cellB.cls := by
    obtain ⟨ws0, hP, hD, hW⟩ := hG
    obtain ⟨j, hj⟩ := hW b _ hb
    exact va_recv C.2.2.2.2.2.2.2.1 hP hc hj
  refine z_run hS hL (va_runV (C := cn) (As := As) (rest := st) ⟨C.1, C.2.1, hml, C.2.2.2.1, C.2.2.2.2.1⟩ hM ⟨callB_of n C.2.2.2.2.1 hG0 hw rfl rfl (C.2.2.2.2.1 _ hini) (C.2.2.2.2.1 _ hli) hd0 (by rw [hR]; exact hR2), C.2.2.2.2.1 _ hins, C.2.2.2.2.1 _ hsel⟩ ⟨(hp (.ref b :: As)).1, hrc, (hp (.ref b :: As)).2⟩ rfl hn hL.1 rfl (lv_room hst) hd (by rw [hR]; exact hf)) kk
theorem z_callI (C : zCx K D cl A tys F rm cc own nm Ts nL ret)  {l : Launch} {y : MethodName} {ws ws' : List Cond} {rm2 : Room} {As : List Value} {post : Option Value → zh → Prop} {bytes : ByteArray} {maxL index n : Nat} {ret2 : Option FieldType} (hKl : K.2.1 = l) {b : Nat} (hM : zM l D cl A tys F y ws rm2 (.ref b :: As) σ post) (hG0 : GoodIn Ts ws) (hw : ws = Cond.code y bytes maxL none :: ws') (hli : Cond.methodLink own index y ∈ Ts) (hins : Cond.instanceMethod y ∈ Ts) (hini : Cond.initialized y.cls ∈ Ts) (hnm : y.name = "<init>") (hd0 : y.cls ≠ "java/lang/invoke/MethodHandle" ∧ y.cls ≠ "java/lang/invoke/VarHandle" ∧ (parseMethodDescriptor y.desc).map (fun d => d.parameters.length) = some n) (hR2 : rm2.frames + 1 ≤ rm.frames ∧ 8 + (maxL + 11) + rm2.locals ≤ rm.locals) (hn : As.length = n) (hst : (st.map fun v => v.category).sum ≤ 8) (hf : cells + rm2.cells ≤ rm.cells ∧ slots + rm2.slots ≤ rm.slots) (hd : decode cc pc = .ok (.invokespecial index, 3)) (kk : ∀ (r : Option Value) (σ' : zh), post r σ' → zJ K D cl A nL Q (cells + rm2.cells) (slots + rm2.slots) (σ') (pc + 3) (lv) (r.toList ++ st)) : zJ K D cl A nL Q (cells) (slots) (σ) (pc) (lv) (As.reverse ++ .ref b :: st) := by
  obtain ⟨p, l, e, R, s, m, args, below, meth, c⟩ := K
  intro H locs ls hG hS hL
  have hR : R = rm := C.2.2.2.2.2.2.2.2.2.2.1
  have hml : c.maxLocals = nL := C.2.2.1
  subst hKl
  have hF : zFok F A := C.2.2.2.2.2.2.2.2.2.2.2.1
  have hp := fun vals => zPc_ok (vals := vals) hF C.2.2.2.2.2.2.2.2.1 C.2.2.2.2.2.2.2.1 C.2.2.2.2.2.2.2.2.2.1 hG hS
  refine z_run hS hL (va_runI (As := As) (rest := st) ⟨C.1, C.2.1, hml, C.2.2.2.1, C.2.2.2.2.1⟩ hM ⟨callB_of n C.2.2.2.2.1 hG0 hw rfl rfl (C.2.2.2.2.1 _ hini) (C.2.2.2.2.1 _ hli) hd0 (by rw [hR]; exact hR2), hnm, C.2.2.2.2.1 _ hins⟩ (hp (.ref b :: As)) rfl hn hL.1 rfl (lv_room hst) hd (by rw [hR]; exact hf)) kk
theorem z_callVN (C : zCx K D cl A tys F rm cc own nm Ts nL ret)  {l : Launch} {y : MethodName} {ws ws' : List Cond} {rm2 : Room} {As : List Value} {post : Option Value → zh → Prop} {bytes : ByteArray} {maxL index n : Nat} {ret2 : Option FieldType} (hKl : K.2.1 = l) {b : Nat} (hM : zM l D cl A tys F y ws rm2 (.ref b :: As) σ post) (hG0 : GoodIn Ts ws) (hw : ws = Cond.code y bytes maxL ret2 :: ws') {ci : Nat} {cn : String} {T : u_T} {N : Nat} {fs : List Value} (hb : σ b = some (ob ci fs)) (hc : cl[ci]? = some (cn, T, N)) {host : String} (hli : ∀ s : State, F s → va_Nw (.methodLinkNest own index y host) s) (hins : Cond.instanceMethod y ∈ Ts) (hsel : Cond.selects cn y y ∈ Ts) (hini : Cond.initialized y.cls ∈ Ts) (hd0 : y.cls ≠ "java/lang/invoke/MethodHandle" ∧ y.cls ≠ "java/lang/invoke/VarHandle" ∧ (parseMethodDescriptor y.desc).map (fun d => d.parameters.length) = some n) (hR2 : rm2.frames + 1 ≤ rm.frames ∧ 8 + (maxL + 11) + rm2.locals ≤ rm.locals) (hn : As.length = n) (hst : (st.map fun v => v.category).sum ≤ 8) (hf : cells + rm2.cells ≤ rm.cells ∧ slots + rm2.slots ≤ rm.slots) (hd : decode cc pc = .ok (.invokevirtual index, 3)) (kk : ∀ (r : Option Value) (σ' : zh), post r σ' → zJ K D cl A nL Q (cells + rm2.cells) (slots + rm2.slots) (σ') (pc + 3) (lv) (r.toList ++ st)) : zJ K D cl A nL Q (cells) (slots) (σ) (pc) (lv) (As.reverse ++ .ref b :: st) := by
  obtain ⟨p, l, e, R, s, m, args, below, meth, c⟩ := K
  intro H locs ls hG hS hL
  have hR : R = rm := C.2.2.2.2.2.2.2.2.2.2.1
  have hml : c.maxLocals = nL := C.2.2.1
  subst hKl
  have hF : zFok F A := C.2.2.2.2.2.2.2.2.2.2.2.1
  have hp := fun vals => zPc_ok (vals := vals) hF C.2.2.2.2.2.2.2.2.1 C.2.2.2.2.2.2.2.1 C.2.2.2.2.2.2.2.2.2.1 hG hS
  have hrc : ∃ cellB : Cell, H[b]? = some cellB ∧ cellB.vm.isStatics = false ∧ s.vm.findClass cn = some cellB.cls := by
    obtain ⟨ws0, hP, hD, hW⟩ := hG
    obtain ⟨j, hj⟩ := hW b _ hb
    exact va_recv C.2.2.2.2.2.2.2.1 hP hc hj
  refine z_run hS hL (va_runVN (C := cn) (host := host) (As := As) (rest := st) ⟨C.1, C.2.1, hml, C.2.2.2.1, C.2.2.2.2.1⟩ hM ⟨va_cnB n C.2.2.2.2.1 hG0 hw rfl rfl (hli s C.2.2.2.2.2.2.2.2.2.1) (C.2.2.2.2.1 _ hini) hd0 (by rw [hR]; exact hR2), C.2.2.2.2.1 _ hins, C.2.2.2.2.1 _ hsel⟩ ⟨(hp (.ref b :: As)).1, hrc, (hp (.ref b :: As)).2⟩ rfl hn hL.1 rfl (lv_room hst) hd (by rw [hR]; exact hf)) kk
theorem z_callIN (C : zCx K D cl A tys F rm cc own nm Ts nL ret)  {l : Launch} {y : MethodName} {ws ws' : List Cond} {rm2 : Room} {As : List Value} {post : Option Value → zh → Prop} {bytes : ByteArray} {maxL index n : Nat} {ret2 : Option FieldType} (hKl : K.2.1 = l) {b : Nat} (hM : zM l D cl A tys F y ws rm2 (.ref b :: As) σ post) (hG0 : GoodIn Ts ws) (hw : ws = Cond.code y bytes maxL none :: ws') {host : String} (hli : ∀ s : State, F s → va_Nw (.methodLinkNest own index y host) s) (hins : Cond.instanceMethod y ∈ Ts) (hini : Cond.initialized y.cls ∈ Ts) (hnm : y.name = "<init>") (hd0 : y.cls ≠ "java/lang/invoke/MethodHandle" ∧ y.cls ≠ "java/lang/invoke/VarHandle" ∧ (parseMethodDescriptor y.desc).map (fun d => d.parameters.length) = some n) (hR2 : rm2.frames + 1 ≤ rm.frames ∧ 8 + (maxL + 11) + rm2.locals ≤ rm.locals) (hn : As.length = n) (hst : (st.map fun v => v.category).sum ≤ 8) (hf : cells + rm2.cells ≤ rm.cells ∧ slots + rm2.slots ≤ rm.slots) (hd : decode cc pc = .ok (.invokespecial index, 3)) (kk : ∀ (r : Option Value) (σ' : zh), post r σ' → zJ K D cl A nL Q (cells + rm2.cells) (slots + rm2.slots) (σ') (pc + 3) (lv) (r.toList ++ st)) : zJ K D cl A nL Q (cells) (slots) (σ) (pc) (lv) (As.reverse ++ .ref b :: st) := by
  obtain ⟨p, l, e, R, s, m, args, below, meth, c⟩ := K
  intro H locs ls hG hS hL
  have hR : R = rm := C.2.2.2.2.2.2.2.2.2.2.1
  have hml : c.maxLocals = nL := C.2.2.1
  subst hKl
  have hF : zFok F A := C.2.2.2.2.2.2.2.2.2.2.2.1
  have hp := fun vals => zPc_ok (vals := vals) hF C.2.2.2.2.2.2.2.2.1 C.2.2.2.2.2.2.2.1 C.2.2.2.2.2.2.2.2.2.1 hG hS
  refine z_run hS hL (va_runIN (host := host) (As := As) (rest := st) ⟨C.1, C.2.1, hml, C.2.2.2.1, C.2.2.2.2.1⟩ hM ⟨va_cnB n C.2.2.2.2.1 hG0 hw rfl rfl (hli s C.2.2.2.2.2.2.2.2.2.1) (C.2.2.2.2.1 _ hini) hd0 (by rw [hR]; exact hR2), hnm, C.2.2.2.2.1 _ hins⟩ (hp (.ref b :: As)) rfl hn hL.1 rfl (lv_room hst) hd (by rw [hR]; exact hf)) kk
end ZS
end
section
/-! THE STATE, own words: st f i is place i of the f-th field of the reference (scalars at place 0):
0 parent 1 injectors 2 bufKey 3 bufLazy 4 buffered 5 kind 6 number 7 scope 8 needs 9 needKey 10 needLazy 11 single 12 request 13 oldSingle 14 oldRequest 15 open 16 iKey 17 iInjector 18 iScope 19 iNeeds 20 iNeedKey 21 iLazy 22 iValue 23 made 24 pile 25 got 26 values 27 top -/
abbrev St : Type := Nat → Nat → Int
def sup (st : St) (f i : Nat) (v : Int) : St := fun g => if g = f then iup (st f) i v else st g
theorem sup_s (st : St) (f i : Nat) (v : Int) : sup st f i v f = iup (st f) i v := by simp [sup]
theorem sup_n {st : St} {f i g : Nat} {v : Int} (h : g ≠ f) : sup st f i v g = st g := by simp [sup, h]
def cpn (g : Nat → Int) (b n : Nat) (h : Nat → Int) : Nat → Int := fun j => if b ≤ j ∧ j < b + n then h (j - b) else g j
theorem cpn_in {g h : Nat → Int} {b n j : Nat} (h1 : b ≤ j) (h2 : j < b + n) : cpn g b n h j = h (j - b) := by simp [cpn, h1, h2]
theorem cpn_out {g h : Nat → Int} {b n j : Nat} (h1 : j < b ∨ b + n ≤ j) : cpn g b n h j = g j := by
  unfold cpn
  rw [if_neg (by omega)]
theorem cpn_0 {g h : Nat → Int} {b : Nat} : cpn g b 0 h = g := by
  funext j
  exact cpn_out (by omega)
theorem cpn_1 {g h : Nat → Int} {b n : Nat} : iup (cpn g b n h) (b + n) (h n) = cpn g b (n + 1) h := by
  funext j
  by_cases e : j = b + n
  · subst e
    rw [iup_s, cpn_in (by omega) (by omega), show b + n - b = n by omega]
  · rw [iup_n e]
    by_cases q : b ≤ j ∧ j < b + n
    · rw [cpn_in q.1 q.2, cpn_in q.1 (by omega)]
    · rw [cpn_out (by omega), cpn_out (by omega)]
theorem cpn_congr {g h h' : Nat → Int} {b n : Nat} (e : ∀ k, k < n → h k = h' k) : cpn g b n h = cpn g b n h' := by
  funext j
  by_cases q : b ≤ j ∧ j < b + n
  · rw [cpn_in q.1 q.2, cpn_in q.1 q.2]; exact e _ (by omega)
  · rw [cpn_out (by omega), cpn_out (by omega)]
/-- the pair that is seen, or -1 -/
def snf (st : St) (key : Nat) : Nat → Int → Int
  | 0, _ => -1
  | n + 1, i => if i < 0 then -1 else if st 5 (12 * i.toNat + key) ≠ 0 then 12 * i + key else snf st key n (st 0 i.toNat)
def sn (st : St) (i key : Nat) : Int := snf st key 3 i
def pOK (st : St) : Prop := st 0 0 = -1 ∧ (0 ≤ st 0 1 ∧ st 0 1 < 1) ∧ (0 ≤ st 0 2 ∧ st 0 2 < 2)
theorem pOK.at {st : St} (h : pOK st) {i : Nat} (hi : i < 3) : -1 ≤ st 0 i ∧ st 0 i < i := by
  obtain ⟨h0, h1, h2⟩ := h
  match i, hi with
  | 0, _ => omega
  | 1, _ => omega
  | 2, _ => omega
theorem snf_cases {st : St} (hp : pOK st) (key : Nat) : ∀ (n : Nat) (i : Int), -1 ≤ i → i < 3 → snf st key n i = -1 ∨ ∃ j : Nat, j < 3 ∧ snf st key n i = ((12 * j + key : Nat) : Int) ∧ st 5 (12 * j + key) ≠ 0
  | 0, i, _, _ => Or.inl rfl
  | n + 1, i, h1, h2 => by
    unfold snf
    by_cases hi : i < 0
    · rw [if_pos hi]; exact Or.inl rfl
    · rw [if_neg hi]
      have hlt : i.toNat < 3 := by omega
      by_cases hk : st 5 (12 * i.toNat + key) ≠ 0
      · rw [if_pos hk]
        exact Or.inr ⟨i.toNat, hlt, by omega, hk⟩
      · rw [if_neg hk]
        have := hp.at hlt
        exact snf_cases hp key n _ (by omega) (by omega)
theorem sn_cases {st : St} (hp : pOK st) {i key : Nat} (hi : i < 3) : sn st i key = -1 ∨ ∃ j : Nat, j < 3 ∧ sn st i key = ((12 * j + key : Nat) : Int) ∧ st 5 (12 * j + key) ≠ 0 := snf_cases hp key 3 i (by omega) (by omega)
def kpt (st : St) (p : Nat) : Int := st 11 p + st 12 p
/-- a new instance of the class at p, with the values vs of its needs -/
def mk (st : St) (p : Nat) (vs : Nat → Int) : St := fun f =>
  if f = 11 then (if st 7 p = 1 then iup (st 11) p (st 23 0 + 1) else st 11)
  else if f = 12 then (if st 7 p = 2 then iup (st 12) p (st 23 0 + 1) else st 12)
  else if f = 16 then iup (st 16) (st 23 0).toNat ((p % 12 : Nat) : Int)
  else if f = 17 then iup (st 17) (st 23 0).toNat ((p / 12 : Nat) : Int)
  else if f = 18 then iup (st 18) (st 23 0).toNat (st 7 p)
  else if f = 19 then iup (st 19) (st 23 0).toNat (st 8 p)
  else if f = 20 then cpn (st 20) (4 * (st 23 0).toNat) (st 8 p).toNat (fun k => st 9 (4 * p + k))
  else if f = 21 then cpn (st 21) (4 * (st 23 0).toNat) (st 8 p).toNat (fun k => st 10 (4 * p + k))
  else if f = 22 then cpn (st 22) (4 * (st 23 0).toNat) (st 8 p).toNat vs
  else if f = 23 then iup (st 23) 0 (st 23 0 + 1)
  else st f
/-- the fields that a getting may change -/
def dyn (f : Nat) : Bool := f == 11 || f == 12 || (16 ≤ f && f ≤ 23)
theorem mk_o {st : St} {p : Nat} {vs : Nat → Int} {f : Nat} (h : dyn f = false) : mk st p vs f = st f := by
  simp only [dyn, Bool.or_eq_false_iff, beq_eq_false_iff_ne, Bool.and_eq_false_iff, decide_eq_false_iff_not] at h
  obtain ⟨⟨h1, h2⟩, h3⟩ := h
  unfold mk
  rw [if_neg h1, if_neg h2, if_neg (by omega), if_neg (by omega), if_neg (by omega), if_neg (by omega), if_neg (by omega), if_neg (by omega), if_neg (by omega), if_neg (by omega)]
theorem mk_23 (st : St) (p : Nat) (vs : Nat → Int) : mk st p vs 23 0 = st 23 0 + 1 := by
  show iup (st 23) 0 (st 23 0 + 1) 0 = _
  rw [iup_s]
/-- GETTING, as the document says it: rget's first argument is how many more pairs there may be in work, wk those that are; an error leaves what was made on the way (it is taken back from outside) -/
def rneeds (g : St → Nat → Nat → Int × St) (p : Nat) : Nat → Nat → St → (Nat → Int) → Int × St × (Nat → Int)
  | 0, _, st, vs => (0, st, vs)
  | n + 1, j, st, vs =>
    if st 10 (4 * p + j) = 1 then rneeds g p n (j + 1) st (iup vs j (20000000000 + 16 * ((p / 12 : Nat) : Int) + st 9 (4 * p + j)))
    else if (g st (p / 12) (st 9 (4 * p + j)).toNat).1 < 0 then ((g st (p / 12) (st 9 (4 * p + j)).toNat).1, (g st (p / 12) (st 9 (4 * p + j)).toNat).2, vs)
    else rneeds g p n (j + 1) (g st (p / 12) (st 9 (4 * p + j)).toNat).2 (iup vs j (g st (p / 12) (st 9 (4 * p + j)).toNat).1)
def rend (p : Nat) (r : Int × St × (Nat → Int)) : Int × St :=
  if r.1 < 0 then (r.1, r.2.1) else if r.2.1 23 0 = 100 then (-5, r.2.1) else (r.2.1 23 0, mk r.2.1 p r.2.2)
def rgo (g : St → Nat → Nat → Int × St) (st : St) (p : Nat) : Int × St :=
  if st 5 p = 2 then g st (p / 12) (st 6 p).toNat
  else if st 7 p = 2 ∧ st 15 0 = 0 then (-4, st)
  else rend p (rneeds g p (st 8 p).toNat 0 st (fun _ => 0))
def wadd (wk : Nat → Bool) (p : Nat) : Nat → Bool := fun q => q == p || wk q
def rget : Nat → (Nat → Bool) → St → Nat → Nat → Int × St
  | 0, _, st, _, _ => (-3, st)
  | d + 1, wk, st, i, k =>
    if sn st i k < 0 then (-2, st)
    else if st 5 (sn st i k).toNat = 1 then (10000000000 + st 6 (sn st i k).toNat, st)
    else if kpt st (sn st i k).toNat ≠ 0 then (kpt st (sn st i k).toNat - 1, st)
    else if wk (sn st i k).toNat = true ∨ d = 0 then (-3, st)
    else rgo (rget d (wadd wk (sn st i k).toNat)) st (sn st i k).toNat
/-! what holds of every state -/
def r32 (a : Int) : Prop := -2147483648 ≤ a ∧ a ≤ 2147483647
def Inv (st : St) : Prop :=
  (1 ≤ st 1 0 ∧ st 1 0 ≤ 3) ∧ pOK st ∧ (0 ≤ st 4 0 ∧ st 4 0 ≤ 4) ∧ (∀ j, 0 ≤ st 2 j ∧ st 2 j ≤ 11) ∧ (∀ j, st 3 j = 0 ∨ st 3 j = 1) ∧
  (∀ p, 0 ≤ st 5 p ∧ st 5 p ≤ 3) ∧ (∀ p : Nat, st 5 p ≠ 0 → ((p / 12 : Nat) : Int) < st 1 0) ∧ (∀ p, r32 (st 6 p)) ∧ (∀ p, st 5 p = 2 → 0 ≤ st 6 p ∧ st 6 p ≤ 11) ∧
  (∀ p, 0 ≤ st 7 p ∧ st 7 p ≤ 2) ∧ (∀ p, 0 ≤ st 8 p ∧ st 8 p ≤ 4) ∧ (∀ j, 0 ≤ st 9 j ∧ st 9 j ≤ 11) ∧ (∀ j, st 10 j = 0 ∨ st 10 j = 1) ∧
  (∀ p, 0 ≤ st 11 p ∧ st 11 p ≤ st 23 0) ∧ (∀ p, st 11 p ≠ 0 → st 5 p = 3 ∧ st 7 p = 1) ∧ (∀ p, 0 ≤ st 12 p ∧ st 12 p ≤ st 23 0) ∧ (∀ p, st 12 p ≠ 0 → st 5 p = 3 ∧ st 7 p = 2 ∧ st 15 0 = 1) ∧
  (st 15 0 = 0 ∨ st 15 0 = 1) ∧ (0 ≤ st 23 0 ∧ st 23 0 ≤ 100) ∧
  (∀ i, 0 ≤ st 16 i ∧ st 16 i ≤ 11) ∧ (∀ i, 0 ≤ st 17 i ∧ st 17 i ≤ 2) ∧ (∀ i : Nat, (i : Int) < st 23 0 → st 17 i < st 1 0) ∧ (∀ i, 0 ≤ st 18 i ∧ st 18 i ≤ 2) ∧ (∀ i, 0 ≤ st 19 i ∧ st 19 i ≤ 4) ∧ (∀ j, 0 ≤ st 20 j ∧ st 20 j ≤ 11) ∧ (∀ j, st 21 j = 0 ∨ st 21 j = 1) ∧ (∀ j, 0 ≤ st 22 j ∧ st 22 j ≤ 1000000000000)
theorem Inv.inj {st : St} (h : Inv st) : 1 ≤ st 1 0 ∧ st 1 0 ≤ 3 := h.1
theorem Inv.par {st : St} (h : Inv st) : pOK st := h.2.1
theorem Inv.bn {st : St} (h : Inv st) : 0 ≤ st 4 0 ∧ st 4 0 ≤ 4 := h.2.2.1
theorem Inv.bk {st : St} (h : Inv st) (j : Nat) : 0 ≤ st 2 j ∧ st 2 j ≤ 11 := h.2.2.2.1 j
theorem Inv.bz {st : St} (h : Inv st) (j : Nat) : st 3 j = 0 ∨ st 3 j = 1 := h.2.2.2.2.1 j
theorem Inv.kd {st : St} (h : Inv st) (p : Nat) : 0 ≤ st 5 p ∧ st 5 p ≤ 3 := h.2.2.2.2.2.1 p
theorem Inv.kj {st : St} (h : Inv st) {p : Nat} (hp : st 5 p ≠ 0) : ((p / 12 : Nat) : Int) < st 1 0 := h.2.2.2.2.2.2.1 p hp
theorem Inv.nu {st : St} (h : Inv st) (p : Nat) : r32 (st 6 p) := h.2.2.2.2.2.2.2.1 p
theorem Inv.lk {st : St} (h : Inv st) {p : Nat} (hp : st 5 p = 2) : 0 ≤ st 6 p ∧ st 6 p ≤ 11 := h.2.2.2.2.2.2.2.2.1 p hp
theorem Inv.sc {st : St} (h : Inv st) (p : Nat) : 0 ≤ st 7 p ∧ st 7 p ≤ 2 := h.2.2.2.2.2.2.2.2.2.1 p
theorem Inv.nn {st : St} (h : Inv st) (p : Nat) : 0 ≤ st 8 p ∧ st 8 p ≤ 4 := h.2.2.2.2.2.2.2.2.2.2.1 p
theorem Inv.nk {st : St} (h : Inv st) (j : Nat) : 0 ≤ st 9 j ∧ st 9 j ≤ 11 := h.2.2.2.2.2.2.2.2.2.2.2.1 j
theorem Inv.nz {st : St} (h : Inv st) (j : Nat) : st 10 j = 0 ∨ st 10 j = 1 := h.2.2.2.2.2.2.2.2.2.2.2.2.1 j
theorem Inv.si {st : St} (h : Inv st) (p : Nat) : 0 ≤ st 11 p ∧ st 11 p ≤ st 23 0 := h.2.2.2.2.2.2.2.2.2.2.2.2.2.1 p
theorem Inv.si2 {st : St} (h : Inv st) {p : Nat} (hp : st 11 p ≠ 0) : st 5 p = 3 ∧ st 7 p = 1 := h.2.2.2.2.2.2.2.2.2.2.2.2.2.2.1 p hp
theorem Inv.re {st : St} (h : Inv st) (p : Nat) : 0 ≤ st 12 p ∧ st 12 p ≤ st 23 0 := h.2.2.2.2.2.2.2.2.2.2.2.2.2.2.2.1 p
theorem Inv.re2 {st : St} (h : Inv st) {p : Nat} (hp : st 12 p ≠ 0) : st 5 p = 3 ∧ st 7 p = 2 ∧ st 15 0 = 1 := h.2.2.2.2.2.2.2.2.2.2.2.2.2.2.2.2.1 p hp
theorem Inv.op {st : St} (h : Inv st) : st 15 0 = 0 ∨ st 15 0 = 1 := h.2.2.2.2.2.2.2.2.2.2.2.2.2.2.2.2.2.1
theorem Inv.md {st : St} (h : Inv st) : 0 ≤ st 23 0 ∧ st 23 0 ≤ 100 := h.2.2.2.2.2.2.2.2.2.2.2.2.2.2.2.2.2.2.1
theorem Inv.ik {st : St} (h : Inv st) (i : Nat) : 0 ≤ st 16 i ∧ st 16 i ≤ 11 := h.2.2.2.2.2.2.2.2.2.2.2.2.2.2.2.2.2.2.2.1 i
theorem Inv.ij {st : St} (h : Inv st) (i : Nat) : 0 ≤ st 17 i ∧ st 17 i ≤ 2 := h.2.2.2.2.2.2.2.2.2.2.2.2.2.2.2.2.2.2.2.2.1 i
theorem Inv.ij2 {st : St} (h : Inv st) {i : Nat} (hi : (i : Int) < st 23 0) : st 17 i < st 1 0 := h.2.2.2.2.2.2.2.2.2.2.2.2.2.2.2.2.2.2.2.2.2.1 i hi
theorem Inv.is {st : St} (h : Inv st) (i : Nat) : 0 ≤ st 18 i ∧ st 18 i ≤ 2 := h.2.2.2.2.2.2.2.2.2.2.2.2.2.2.2.2.2.2.2.2.2.2.1 i
theorem Inv.inn {st : St} (h : Inv st) (i : Nat) : 0 ≤ st 19 i ∧ st 19 i ≤ 4 := h.2.2.2.2.2.2.2.2.2.2.2.2.2.2.2.2.2.2.2.2.2.2.2.1 i
theorem Inv.ink {st : St} (h : Inv st) (j : Nat) : 0 ≤ st 20 j ∧ st 20 j ≤ 11 := h.2.2.2.2.2.2.2.2.2.2.2.2.2.2.2.2.2.2.2.2.2.2.2.2.1 j
theorem Inv.iz {st : St} (h : Inv st) (j : Nat) : st 21 j = 0 ∨ st 21 j = 1 := h.2.2.2.2.2.2.2.2.2.2.2.2.2.2.2.2.2.2.2.2.2.2.2.2.2.1 j
theorem Inv.ivv {st : St} (h : Inv st) (j : Nat) : 0 ≤ st 22 j ∧ st 22 j ≤ 1000000000000 := h.2.2.2.2.2.2.2.2.2.2.2.2.2.2.2.2.2.2.2.2.2.2.2.2.2.2 j
theorem Inv.kp {st : St} (h : Inv st) (p : Nat) : 0 ≤ kpt st p ∧ kpt st p ≤ st 23 0 := by
  have h1 := h.si p
  have h2 := h.re p
  unfold kpt
  by_cases e : st 11 p = 0
  · omega
  · by_cases e2 : st 12 p = 0
    · omega
    · have := (h.si2 e).2
      have := (h.re2 e2).2.1
      omega
theorem Inv.seen {st : St} (h : Inv st) {i key : Nat} (hi : i < 3) (hk : key < 12) (hs : ¬ sn st i key < 0) : ∃ p : Nat, p < 36 ∧ sn st i key = (p : Int) ∧ st 5 p ≠ 0 ∧ p % 12 = key := by
  rcases sn_cases h.par (key := key) hi with q | ⟨j, hj, e, hk0⟩
  · omega
  · exact ⟨12 * j + key, by omega, e, hk0, by omega⟩
/-- a new instance keeps what holds -/
theorem Inv.mkI {st : St} (h : Inv st) {p : Nat} {vs : Nat → Int} (hp : p < 36) (h3 : st 5 p = 3) (hno : ¬ (st 7 p = 2 ∧ st 15 0 = 0)) (hm : st 23 0 ≠ 100) (hv : ∀ k, k < 4 → 0 ≤ vs k ∧ vs k ≤ 1000000000000) : Inv (mk st p vs) := by
  have hmd := h.md
  have e23 := mk_23 st p vs
  have o : ∀ f, dyn f = false → mk st p vs f = st f := fun f hf => mk_o hf
  have iu : ∀ (g : Nat → Int) (k : Nat) (v lo hi : Int), (∀ i, lo ≤ g i ∧ g i ≤ hi) → (lo ≤ v ∧ v ≤ hi) → ∀ i, lo ≤ iup g k v i ∧ iup g k v i ≤ hi := by
    intro g k v lo hi h1 h2 i
    by_cases e : i = k
    · subst e; rw [iup_s]; exact h2
    · rw [iup_n e]; exact h1 i
  have hnn := h.nn p
  have cp : ∀ (g w : Nat → Int) (b : Nat) (lo hi : Int), (∀ i, lo ≤ g i ∧ g i ≤ hi) → (∀ k, k < 4 → lo ≤ w k ∧ w k ≤ hi) → ∀ i, lo ≤ cpn g b (st 8 p).toNat w i ∧ cpn g b (st 8 p).toNat w i ≤ hi := by
    intro g w b lo hi h1 h2 i
    by_cases e : b ≤ i ∧ i < b + (st 8 p).toNat
    · rw [cpn_in e.1 e.2]; exact h2 _ (by omega)
    · rw [cpn_out (by omega)]; exact h1 i
  have hsc := h.sc p
  refine ⟨?_, ?_, ?_, ?_, ?_, ?_, ?_, ?_, ?_, ?_, ?_, ?_, ?_, ?_, ?_, ?_, ?_, ?_, ?_, ?_, ?_, ?_, ?_, ?_, ?_, ?_, ?_⟩
  · rw [o 1 rfl]; exact h.inj
  · unfold pOK; rw [o 0 rfl]; exact h.par
  · rw [o 4 rfl]; exact h.bn
  · rw [o 2 rfl]; exact h.bk
  · rw [o 3 rfl]; exact h.bz
  · rw [o 5 rfl]; exact h.kd
  · rw [o 5 rfl, o 1 rfl]; exact fun _ => h.kj
  · rw [o 6 rfl]; exact h.nu
  · rw [o 5 rfl, o 6 rfl]; exact fun _ => h.lk
  · rw [o 7 rfl]; exact h.sc
  · rw [o 8 rfl]; exact h.nn
  · rw [o 9 rfl]; exact h.nk
  · rw [o 10 rfl]; exact h.nz
  · rw [e23]
    intro q
    have hq := h.si q
    show 0 ≤ (if st 7 p = 1 then iup (st 11) p (st 23 0 + 1) else st 11) q ∧ (if st 7 p = 1 then iup (st 11) p (st 23 0 + 1) else st 11) q ≤ _
    by_cases c : st 7 p = 1
    · rw [if_pos c]
      by_cases e : q = p
      · subst e; rw [iup_s]; omega
      · rw [iup_n e]; omega
    · rw [if_neg c]; omega
  · rw [o 5 rfl, o 7 rfl]
    intro q
    show (if st 7 p = 1 then iup (st 11) p (st 23 0 + 1) else st 11) q ≠ 0 → _
    by_cases c : st 7 p = 1
    · rw [if_pos c]
      by_cases e : q = p
      · subst e; exact fun _ => ⟨h3, c⟩
      · rw [iup_n e]; exact h.si2
    · rw [if_neg c]; exact h.si2
  · rw [e23]
    intro q
    have hq := h.re q
    show 0 ≤ (if st 7 p = 2 then iup (st 12) p (st 23 0 + 1) else st 12) q ∧ (if st 7 p = 2 then iup (st 12) p (st 23 0 + 1) else st 12) q ≤ _
    by_cases c : st 7 p = 2
    · rw [if_pos c]
      by_cases e : q = p
      · subst e; rw [iup_s]; omega
      · rw [iup_n e]; omega
    · rw [if_neg c]; omega
  · rw [o 5 rfl, o 7 rfl, o 15 rfl]
    intro q
    show (if st 7 p = 2 then iup (st 12) p (st 23 0 + 1) else st 12) q ≠ 0 → _
    by_cases c : st 7 p = 2
    · rw [if_pos c]
      by_cases e : q = p
      · subst e
        exact fun _ => ⟨h3, c, by rcases h.op with z | z
                                  · exact absurd ⟨c, z⟩ hno
                                  · exact z⟩
      · rw [iup_n e]; exact h.re2
    · rw [if_neg c]; exact h.re2
  · rw [o 15 rfl]; exact h.op
  · rw [e23]; omega
  · exact iu (st 16) _ _ 0 11 h.ik (by omega)
  · exact iu (st 17) _ _ 0 2 h.ij (by omega)
  · rw [e23, o 1 rfl]
    intro i hi
    show iup (st 17) (st 23 0).toNat ((p / 12 : Nat) : Int) i < _
    by_cases e : i = (st 23 0).toNat
    · rw [e, iup_s]; exact h.kj (by omega)
    · rw [iup_n e]; exact h.ij2 (by omega)
  · exact iu (st 18) _ _ 0 2 h.is hsc
  · exact iu (st 19) _ _ 0 4 h.inn hnn
  · exact cp (st 20) _ _ 0 11 h.ink (fun k _ => h.nk _)
  · intro j
    have z := cp (st 21) (fun k => st 10 (4 * p + k)) (4 * (st 23 0).toNat) 0 1 (fun i => by have := h.iz i; omega) (fun k _ => by have := h.nz (4 * p + k); omega) j
    show cpn (st 21) (4 * (st 23 0).toNat) (st 8 p).toNat (fun k => st 10 (4 * p + k)) j = 0 ∨ cpn (st 21) (4 * (st 23 0).toNat) (st 8 p).toNat (fun k => st 10 (4 * p + k)) j = 1
    omega
  · exact cp (st 22) vs _ 0 1000000000000 h.ivv hv
end
section
/-! what a getting keeps -/
def grow (s r : St) : Prop := (∀ f, dyn f = false → r f = s f) ∧ s 23 0 ≤ r 23 0 ∧ (∀ p, r 11 p = s 11 p ∨ (p < 36 ∧ s 23 0 < r 11 p)) ∧ (∀ p, r 12 p = s 12 p ∨ (p < 36 ∧ s 23 0 < r 12 p)) ∧ (∀ i : Nat, (i : Int) < s 23 0 → r 16 i = s 16 i ∧ r 17 i = s 17 i ∧ r 18 i = s 18 i ∧ r 19 i = s 19 i) ∧ (∀ j : Nat, (j : Int) < 4 * s 23 0 → r 20 j = s 20 j ∧ r 21 j = s 21 j ∧ r 22 j = s 22 j) ∧ ∀ j : Nat, j ≠ 0 → r 23 j = s 23 j
theorem grow.rf (s : St) : grow s s := ⟨fun _ _ => rfl, Int.le_refl _, fun _ => Or.inl rfl, fun _ => Or.inl rfl, fun _ _ => ⟨rfl, rfl, rfl, rfl⟩, fun _ _ => ⟨rfl, rfl, rfl⟩, fun _ _ => rfl⟩
theorem grow.tr {a b c : St} (h : grow a b) (k : grow b c) : grow a c := by
  obtain ⟨h1, h2, h3, h4, h5, h6, h7⟩ := h
  obtain ⟨k1, k2, k3, k4, k5, k6, k7⟩ := k
  refine ⟨fun f hf => (k1 f hf).trans (h1 f hf), by omega, fun p => ?_, fun p => ?_, fun i hi => ?_, fun j hj => ?_, fun j hj => (k7 j hj).trans (h7 j hj)⟩
  · have := h3 p; have := k3 p; omega
  · have := h4 p; have := k4 p; omega
  · have := h5 i hi; have := k5 i (by omega); omega
  · have := h6 j hj; have := k6 j (by omega); omega
theorem grow.mkG {s : St} (hm : 0 ≤ s 23 0) {p : Nat} (hp : p < 36) (vs : Nat → Int) : grow s (mk s p vs) := by
  refine ⟨fun f hf => mk_o hf, by rw [mk_23]; omega, fun q => ?_, fun q => ?_, fun i hi => ?_, fun j hj => ?_, fun j hj => iup_n (f := s 23) hj⟩
  · show (if s 7 p = 1 then iup (s 11) p (s 23 0 + 1) else s 11) q = _ ∨ (q < 36 ∧ _ < (if s 7 p = 1 then iup (s 11) p (s 23 0 + 1) else s 11) q)
    by_cases c : s 7 p = 1
    · rw [if_pos c]
      by_cases e : q = p
      · subst e; rw [iup_s]; exact Or.inr (by omega)
      · rw [iup_n e]; exact Or.inl rfl
    · rw [if_neg c]; exact Or.inl rfl
  · show (if s 7 p = 2 then iup (s 12) p (s 23 0 + 1) else s 12) q = _ ∨ (q < 36 ∧ _ < (if s 7 p = 2 then iup (s 12) p (s 23 0 + 1) else s 12) q)
    by_cases c : s 7 p = 2
    · rw [if_pos c]
      by_cases e : q = p
      · subst e; rw [iup_s]; exact Or.inr (by omega)
      · rw [iup_n e]; exact Or.inl rfl
    · rw [if_neg c]; exact Or.inl rfl
  · have ne : i ≠ (s 23 0).toNat := by omega
    exact ⟨iup_n (f := s 16) ne, iup_n (f := s 17) ne, iup_n (f := s 18) ne, iup_n (f := s 19) ne⟩
  · have ne : j < 4 * (s 23 0).toNat ∨ 4 * (s 23 0).toNat + (s 8 p).toNat ≤ j := by omega
    exact ⟨cpn_out (g := s 20) (h := fun k => s 9 (4 * p + k)) ne, cpn_out (g := s 21) (h := fun k => s 10 (4 * p + k)) ne, cpn_out (g := s 22) (h := vs) ne⟩
def okr (s : St) (r : Int × St) : Prop := Inv r.2 ∧ grow s r.2 ∧ -5 ≤ r.1 ∧ r.1 ≤ 1000000000000
def gok (g : St → Nat → Nat → Int × St) : Prop := ∀ (s : St) (i k : Nat), Inv s → i < 3 → k < 12 → okr s (g s i k)
theorem rneeds_ok {g : St → Nat → Nat → Int × St} (hg : gok g) {p : Nat} (hp : p < 36) : ∀ (n j : Nat) (s : St) (vs : Nat → Int), Inv s → (∀ k, 0 ≤ vs k ∧ vs k ≤ 1000000000000) →
    Inv (rneeds g p n j s vs).2.1 ∧ grow s (rneeds g p n j s vs).2.1 ∧ -5 ≤ (rneeds g p n j s vs).1 ∧ (rneeds g p n j s vs).1 ≤ 0 ∧ ∀ k, 0 ≤ (rneeds g p n j s vs).2.2 k ∧ (rneeds g p n j s vs).2.2 k ≤ 1000000000000
  | 0, j, s, vs, hs, hv => ⟨hs, grow.rf s, by show (-5 : Int) ≤ 0; omega, Int.le_refl 0, hv⟩
  | n + 1, j, s, vs, hs, hv => by
    have hk := hs.nk (4 * p + j)
    have upd : ∀ v : Int, 0 ≤ v ∧ v ≤ 1000000000000 → ∀ k, 0 ≤ iup vs j v k ∧ iup vs j v k ≤ 1000000000000 := by
      intro v h k
      by_cases e : k = j
      · subst e; rw [iup_s]; exact h
      · rw [iup_n e]; exact hv k
    unfold rneeds
    by_cases hz : s 10 (4 * p + j) = 1
    · rw [if_pos hz]
      exact rneeds_ok hg hp n (j + 1) s _ hs (upd _ (by omega))
    · rw [if_neg hz]
      have h1 := hg s (p / 12) (s 9 (4 * p + j)).toNat hs (by omega) (by omega)
      generalize g s (p / 12) (s 9 (4 * p + j)).toNat = r at h1 ⊢
      obtain ⟨a1, a2, a3, a4⟩ := h1
      by_cases hr : r.1 < 0
      · rw [if_pos hr]
        exact ⟨a1, a2, a3, by show r.1 ≤ 0; omega, hv⟩
      · rw [if_neg hr]
        obtain ⟨b1, b2, b3⟩ := rneeds_ok hg hp n (j + 1) r.2 (iup vs j r.1) a1 (upd _ (by omega))
        exact ⟨b1, a2.tr b2, b3⟩
theorem rend_ok {s : St} {p : Nat} {r : Int × St × (Nat → Int)} (hp : p < 36) (h3 : s 5 p = 3) (hno : ¬ (s 7 p = 2 ∧ s 15 0 = 0)) (hi : Inv r.2.1) (hg : grow s r.2.1) (h1 : -5 ≤ r.1) (h2 : r.1 ≤ 0) (hv : ∀ k, 0 ≤ r.2.2 k ∧ r.2.2 k ≤ 1000000000000) : okr s (rend p r) := by
  unfold rend
  have hmd := hi.md
  by_cases c : r.1 < 0
  · rw [if_pos c]; exact ⟨hi, hg, h1, by show r.1 ≤ _; omega⟩
  · rw [if_neg c]
    by_cases c2 : r.2.1 23 0 = 100
    · rw [if_pos c2]; exact ⟨hi, hg, by show (-5 : Int) ≤ -5; omega, by show (-5 : Int) ≤ _; omega⟩
    · rw [if_neg c2]
      have o := hg.1
      refine ⟨hi.mkI hp (by rw [o 5 rfl]; exact h3) (by rw [o 7 rfl, o 15 rfl]; exact hno) c2 (fun k _ => hv k), hg.tr (grow.mkG hmd.1 hp _), ?_, ?_⟩
      · show -5 ≤ r.2.1 23 0; omega
      · show r.2.1 23 0 ≤ _; omega
theorem rgo_ok {g : St → Nat → Nat → Int × St} (hg : gok g) {s : St} {p : Nat} (hp : p < 36) (hs : Inv s) (h0 : s 5 p = 2 ∨ s 5 p = 3) : okr s (rgo g s p) := by
  unfold rgo
  by_cases c : s 5 p = 2
  · rw [if_pos c]
    have := hs.lk c
    exact hg s (p / 12) (s 6 p).toNat hs (by omega) (by omega)
  · rw [if_neg c]
    by_cases c2 : s 7 p = 2 ∧ s 15 0 = 0
    · rw [if_pos c2]; exact ⟨hs, grow.rf s, by show (-5 : Int) ≤ -4; omega, by show (-4 : Int) ≤ _; omega⟩
    · rw [if_neg c2]
      obtain ⟨a1, a2, a3, a4, a5⟩ := rneeds_ok hg hp (s 8 p).toNat 0 s (fun _ => 0) hs (fun _ => by omega)
      exact rend_ok hp (by omega) c2 a1 a2 a3 a4 a5
theorem rget_ok : ∀ (d : Nat) (wk : Nat → Bool), gok (rget d wk)
  | 0, wk => fun s i k hs _ _ => ⟨hs, grow.rf s, by show (-5 : Int) ≤ -3; omega, by show (-3 : Int) ≤ _; omega⟩
  | d + 1, wk => by
    intro s i k hs hi hk
    unfold rget
    by_cases c : sn s i k < 0
    · rw [if_pos c]; exact ⟨hs, grow.rf s, by show (-5 : Int) ≤ -2; omega, by show (-2 : Int) ≤ _; omega⟩
    · rw [if_neg c]
      obtain ⟨p, hp, e, h0, -⟩ := hs.seen hi hk c
      rw [e, Int.toNat_natCast]
      by_cases c1 : s 5 p = 1
      · rw [if_pos c1]
        have := hs.nu p
        unfold r32 at this
        exact ⟨hs, grow.rf s, by show -5 ≤ 10000000000 + s 6 p; omega, by show 10000000000 + s 6 p ≤ _; omega⟩
      · rw [if_neg c1]
        have hkp := hs.kp p
        have hmd := hs.md
        by_cases c2 : kpt s p ≠ 0
        · rw [if_pos c2]; exact ⟨hs, grow.rf s, by show -5 ≤ kpt s p - 1; omega, by show kpt s p - 1 ≤ _; omega⟩
        · rw [if_neg c2]
          by_cases c3 : wk p = true ∨ d = 0
          · rw [if_pos c3]; exact ⟨hs, grow.rf s, by show (-5 : Int) ≤ -3; omega, by show (-3 : Int) ≤ _; omega⟩
          · rw [if_neg c3]
            have := hs.kd p
            exact rgo_ok (rget_ok d (wadd wk p)) hp hs (by omega)
/-- a getting from outside -/
def sget (st : St) (i k : Nat) : Int × St := if (rget 37 (fun _ => false) st i k).1 < 0 then ((rget 37 (fun _ => false) st i k).1, st) else rget 37 (fun _ => false) st i k
end
section
/-! THE REFERENCE'S MACHINE: what begin, make, work, took and gets do to the state -/
def wkg (st : St) (p : Nat) : Bool := (List.range (st 27 0).toNat).any fun k => decide (st 24 k = (p : Int))
def mpush (st : St) (p : Nat) : St := sup (sup (sup st 24 (st 27 0).toNat p) 25 (st 27 0).toNat 0) 27 0 (st 27 0 + 1)
def mbeginp (st : St) (p : Nat) : Int × St :=
  if st 5 p = 1 then (10000000000 + st 6 p, st)
  else if st 5 p = 3 ∧ st 7 p = 1 ∧ st 11 p ≠ 0 then (st 11 p - 1, st)
  else if st 5 p = 3 ∧ st 7 p = 2 ∧ st 15 0 ≠ 0 ∧ st 12 p ≠ 0 then (st 12 p - 1, st)
  else if wkg st p = true then (-3, st)
  else if st 5 p = 3 ∧ st 7 p = 2 ∧ st 15 0 = 0 then (-4, st)
  else (-100, mpush st p)
def mbegin (st : St) (i k : Nat) : Int × St := if sn st i k < 0 then (-2, st) else mbeginp st (sn st i k).toNat
def mmake (st : St) (p w : Nat) : Int × St := if st 23 0 = 100 then (-5, st) else (st 23 0, mk st p (fun k => st 26 (4 * w + k)))
def mone (st : St) (p me : Nat) : Int × St := if st 10 (4 * p + (st 25 me).toNat) = 1 then (20000000000 + 16 * ((p / 12 : Nat) : Int) + st 9 (4 * p + (st 25 me).toNat), st) else mbegin st (p / 12) (st 9 (4 * p + (st 25 me).toNat)).toNat
def mput (st : St) (me : Nat) (v : Int) : St := sup (sup st 26 (4 * me + (st 25 me).toNat) v) 25 me (st 25 me + 1)
def mneeds (p me : Nat) : Nat → St → Int × St
  | 0, st => mmake st p me
  | n + 1, st => if (mone st p me).1 < 0 then mone st p me else mneeds p me n (mput (mone st p me).2 me (mone st p me).1)
def mworkp (st : St) (me p : Nat) : Int × St :=
  if st 5 p = 2 then (if st 25 me = 0 then mbegin st (p / 12) (st 6 p).toNat else (st 26 (4 * me), st)) else mneeds p me (st 8 p - st 25 me).toNat st
def mwork (st : St) : Int × St := mworkp st (st 27 0 - 1).toNat (st 24 (st 27 0 - 1).toNat).toNat
def mtk (st : St) (v : Int) : St := sup (sup st 26 (4 * (st 27 0 - 1).toNat) v) 25 (st 27 0 - 1).toNat 1
def mpop (st : St) : St := sup st 27 0 (st 27 0 - 1)
def mdel (st : St) (v : Int) : St := mput st (st 27 0 - 1).toNat v
def mcont (rec : Int → St → Int × St) (w : Int × St) (tp : Int) : Int × St :=
  if w.1 < 0 then rec w.1 w.2
  else if w.2 27 0 = tp ∧ w.2 5 (w.2 24 (w.2 27 0 - 1).toNat).toNat = 2 ∧ w.2 25 (w.2 27 0 - 1).toNat = 0 then rec w.1 (mtk w.2 w.1)
  else if mpop w.2 27 0 = 0 then (w.1, mpop w.2)
  else rec w.1 (mdel (mpop w.2) w.1)
def mloop : Nat → Int → St → Int × St
  | 0, v, st => (v, st)
  | n + 1, v, st => if st 27 0 ≤ 0 then (v, st) else if v < 0 ∧ v ≠ -100 then (v, st) else mcont (mloop n) (mwork st) (st 27 0)
def mgets (st : St) (i k : Nat) : Int × St := mloop 100000 (mbegin (sup st 27 0 0) i k).1 (mbegin (sup st 27 0 0) i k).2
/-! pigeons -/
theorem pig : ∀ (n : Nat) (f : Nat → Nat), (∀ j, j < n + 1 → f j < n) → ∃ i j, i < j ∧ j < n + 1 ∧ f i = f j
  | 0, f, h => absurd (h 0 (by omega)) (by omega)
  | n + 1, f, h => by
    by_cases c : ∃ i, i < n + 1 ∧ f i = f (n + 1)
    · obtain ⟨i, hi, e⟩ := c
      exact ⟨i, n + 1, hi, by omega, e⟩
    · have hne : ∀ i, i < n + 1 → f i ≠ f (n + 1) := fun i hi e => c ⟨i, hi, e⟩
      obtain ⟨i, j, hij, hj, e⟩ := pig n (fun j => if f j = n then f (n + 1) else f j) (by
        intro j hj
        have h1 := h j (by omega)
        have h2 := h (n + 1) (by omega)
        have h3 := hne j hj
        show (if f j = n then f (n + 1) else f j) < n
        split <;> omega)
      have h1 := hne i (by omega)
      have h2 := hne j (by omega)
      have e : (if f i = n then f (n + 1) else f i) = (if f j = n then f (n + 1) else f j) := e
      refine ⟨i, j, hij, by omega, ?_⟩
      split at e <;> split at e <;> omega
/-- n different numbers under n are all of them -/
theorem pig_all {n : Nat} {f : Nat → Nat} (hf : ∀ j, j < n → f j < n) (inj : ∀ i j, i < n → j < n → f i = f j → i = j) {q : Nat} (hq : q < n) : ∃ j, j < n ∧ f j = q := by
  apply Classical.byContradiction
  intro hc
  have hne : ∀ j, j < n → f j ≠ q := fun j hj e => hc ⟨j, hj, e⟩
  match n, hq with
  | m + 1, hq =>
    obtain ⟨i, j, hij, hj, e⟩ := pig m (fun j => if f j = m then q else f j) (by
      intro j hj
      have h1 := hf j hj
      have h2 := hne j hj
      show (if f j = m then q else f j) < m
      split
      · have := hne j hj; omega
      · omega)
    have e : (if f i = m then q else f i) = (if f j = m then q else f j) := e
    have h1 := hne i (by omega)
    have h2 := hne j (by omega)
    have := inj i j (by omega) (by omega) (by split at e <;> split at e <;> omega)
    omega
/-! the machine follows the getting -/
def sem (m s : St) : Prop := ∀ f, f < 24 ∨ 27 < f → m f = s f
def low (t : Nat) (a b : St) : Prop := ∀ j, j < t → a 24 j = b 24 j ∧ a 25 j = b 25 j ∧ ∀ k, k < 4 → a 26 (4 * j + k) = b 26 (4 * j + k)
theorem low.tr {t : Nat} {a b c : St} (h : low t a b) (k : low t b c) : low t a c := fun j hj => ⟨(h j hj).1.trans (k j hj).1, (h j hj).2.1.trans (k j hj).2.1, fun i hi => ((h j hj).2.2 i hi).trans ((k j hj).2.2 i hi)⟩
def PF (m : St) (t : Nat) (wk : Nat → Bool) : Prop := m 27 0 = t ∧ (∀ j, j < t → 0 ≤ m 24 j ∧ m 24 j < 36) ∧ (∀ i j, i < t → j < t → m 24 i = m 24 j → i = j) ∧ ∀ q : Nat, wk q = true ↔ ∃ j, j < t ∧ m 24 j = (q : Int)
theorem PF.low {m m' : St} {t : Nat} {wk : Nat → Bool} (h : PF m t wk) (ht : m' 27 0 = t) (hl : ∀ j, j < t → m' 24 j = m 24 j) : PF m' t wk := by
  refine ⟨ht, fun j hj => by rw [hl j hj]; exact h.2.1 j hj, fun i j hi hj e => h.2.2.1 i j hi hj (by rw [← hl i hi, ← hl j hj]; exact e), fun q => (h.2.2.2 q).trans ⟨fun ⟨j, hj, e⟩ => ⟨j, hj, by rw [hl j hj]; exact e⟩, fun ⟨j, hj, e⟩ => ⟨j, hj, by rw [← hl j hj]; exact e⟩⟩⟩
theorem wkg_iff {m : St} {t : Nat} {wk : Nat → Bool} (h : PF m t wk) (q : Nat) : wkg m q = true ↔ wk q = true := by
  rw [h.2.2.2 q]
  unfold wkg
  rw [h.1, Int.toNat_natCast, List.any_eq_true]
  constructor
  · rintro ⟨k, hk, e⟩
    exact ⟨k, List.mem_range.mp hk, of_decide_eq_true e⟩
  · rintro ⟨k, hk, e⟩
    exact ⟨k, List.mem_range.mpr hk, decide_eq_true e⟩
theorem PF.push {m : St} {t q : Nat} {wk : Nat → Bool} (h : PF m t wk) (hq : q < 36) (hw : ¬ wk q = true) : PF (mpush m q) (t + 1) (wadd wk q) := by
  obtain ⟨h1, h2, h3, h4⟩ := h
  have e24 : mpush m q 24 = iup (m 24) t q := by
    show iup (m 24) (m 27 0).toNat q = _
    rw [h1, Int.toNat_natCast]
  have hnot : ∀ j, j < t → m 24 j ≠ (q : Int) := fun j hj e => hw ((h4 q).mpr ⟨j, hj, e⟩)
  refine ⟨?_, fun j hj => ?_, fun i j hi hj e => ?_, fun x => ?_⟩
  · show iup (m 27) 0 (m 27 0 + 1) 0 = _
    rw [iup_s, h1]; omega
  · rw [e24]
    by_cases c : j = t
    · subst c; rw [iup_s]; omega
    · rw [iup_n c]; exact h2 j (by omega)
  · rw [e24] at e
    by_cases ci : i = t
    · by_cases cj : j = t
      · omega
      · subst ci
        rw [iup_s, iup_n cj] at e
        exact absurd e.symm (hnot j (by omega))
    · by_cases cj : j = t
      · subst cj
        rw [iup_s, iup_n ci] at e
        exact absurd e (hnot i (by omega))
      · rw [iup_n ci, iup_n cj] at e
        exact h3 i j (by omega) (by omega) e
  · unfold wadd
    rw [Bool.or_eq_true, beq_iff_eq, h4 x, e24]
    constructor
    · rintro (rfl | ⟨j, hj, e⟩)
      · exact ⟨t, by omega, iup_s _ _ _⟩
      · exact ⟨j, by omega, by rw [iup_n (by omega)]; exact e⟩
    · rintro ⟨j, hj, e⟩
      by_cases c : j = t
      · subst c
        rw [iup_s] at e
        exact Or.inl (by omega)
      · rw [iup_n c] at e
        exact Or.inr ⟨j, by omega, e⟩
theorem sem_push {m s : St} {q : Nat} (h : sem m s) : sem (mpush m q) s := by
  intro f hf
  unfold mpush
  rw [sup_n (by omega), sup_n (by omega), sup_n (by omega)]
  exact h f hf
theorem snf_congr {a b : St} (h0 : a 0 = b 0) (h5 : a 5 = b 5) (key : Nat) : ∀ (n : Nat) (i : Int), snf a key n i = snf b key n i
  | 0, _ => rfl
  | n + 1, i => by
    unfold snf
    rw [h0, h5, snf_congr h0 h5 key n]
theorem sn_congr {a b : St} (h0 : a 0 = b 0) (h5 : a 5 = b 5) (i key : Nat) : sn a i key = sn b i key := snf_congr h0 h5 key 3 i
/-- begin, beside the getting -/
theorem beg {s m : St} {t d i k : Nat} {wk : Nat → Bool} (hs : Inv s) (hm : sem m s) (hP : PF m t wk) (htd : t + d = 36) (hi : i < 3) (hk : k < 12) :
    (mbegin m i k = ((rget (d + 1) wk s i k).1, m) ∧ (rget (d + 1) wk s i k).2 = s ∧ (rget (d + 1) wk s i k).1 ≠ -100) ∨
    ∃ q : Nat, q < 36 ∧ mbegin m i k = (-100, mpush m q) ∧ rget (d + 1) wk s i k = rgo (rget d (wadd wk q)) s q ∧ (s 5 q = 2 ∨ s 5 q = 3) ∧ ¬ (s 5 q = 3 ∧ s 7 q = 2 ∧ s 15 0 = 0) ∧ 0 < d ∧ ¬ wk q = true := by
  unfold mbegin
  rw [sn_congr (hm 0 (by omega)) (hm 5 (by omega))]
  by_cases c : sn s i k < 0
  · unfold rget
    rw [if_pos c, if_pos c]
    exact Or.inl ⟨rfl, rfl, by show (-2 : Int) ≠ -100; omega⟩
  · rw [if_neg c]
    obtain ⟨p, hp, e, h0, -⟩ := hs.seen hi hk c
    have hkd := hs.kd p
    have hsi := hs.si p
    have hre := hs.re p
    have hkp := hs.kp p
    have hnu := hs.nu p
    unfold r32 at hnu
    have key : rget (d + 1) wk s i k = if s 5 p = 1 then (10000000000 + s 6 p, s) else if kpt s p ≠ 0 then (kpt s p - 1, s) else if wk p = true ∨ d = 0 then (-3, s) else rgo (rget d (wadd wk p)) s p := by
      show (if sn s i k < 0 then _ else _) = _
      rw [if_neg c, e, Int.toNat_natCast]
    rw [key, e, Int.toNat_natCast]
    unfold mbeginp
    rw [hm 5 (by omega), hm 6 (by omega), hm 7 (by omega), hm 11 (by omega), hm 12 (by omega), hm 15 (by omega)]
    by_cases c1 : s 5 p = 1
    · rw [if_pos c1, if_pos c1]
      exact Or.inl ⟨rfl, rfl, by show 10000000000 + s 6 p ≠ -100; omega⟩
    · rw [if_neg c1, if_neg c1]
      by_cases c2 : s 11 p = 0
      · by_cases c3 : s 12 p = 0
        · have hk0 : kpt s p = 0 := by unfold kpt; omega
          rw [if_neg (fun z => z.2.2 c2), if_neg (fun z => z.2.2.2 c3), if_neg (show ¬ (kpt s p ≠ 0) from fun z => z hk0)]
          by_cases c4 : wk p = true
          · rw [if_pos (show wk p = true ∨ d = 0 from Or.inl c4), if_pos ((wkg_iff hP p).mpr c4)]
            exact Or.inl ⟨rfl, rfl, by show (-3 : Int) ≠ -100; omega⟩
          · have hd : d ≠ 0 := by
              intro hd
              apply c4
              rw [hP.2.2.2 p]
              obtain ⟨j, hj, ej⟩ := pig_all (n := t) (f := fun j => (m 24 j).toNat) (fun j hj => by have := hP.2.1 j hj; show (m 24 j).toNat < t; omega) (fun a b ha hb eab => hP.2.2.1 a b ha hb (by have := hP.2.1 a ha; have := hP.2.1 b hb; have eab : (m 24 a).toNat = (m 24 b).toNat := eab; omega)) (show p < t by omega)
              have := hP.2.1 j hj
              have ej : (m 24 j).toNat = p := ej
              exact ⟨j, hj, by omega⟩
            rw [if_neg (show ¬ (wk p = true ∨ d = 0) from fun z => z.elim c4 hd), if_neg (show ¬ wkg m p = true from fun z => c4 ((wkg_iff hP p).mp z))]
            by_cases c5 : s 5 p = 3 ∧ s 7 p = 2 ∧ s 15 0 = 0
            · rw [if_pos c5]
              have er : rgo (rget d (wadd wk p)) s p = (-4, s) := by
                unfold rgo
                rw [if_neg (by omega), if_pos c5.2]
              rw [er]
              exact Or.inl ⟨rfl, rfl, by show (-4 : Int) ≠ -100; omega⟩
            · rw [if_neg c5]
              exact Or.inr ⟨p, hp, rfl, rfl, by omega, c5, by omega, c4⟩
        · obtain ⟨g1, g2, g3⟩ := hs.re2 c3
          have hk0 : kpt s p = s 12 p := by unfold kpt; omega
          rw [if_neg (fun z => z.2.2 c2), if_pos ⟨g1, g2, by omega, c3⟩, if_pos (by rw [hk0]; exact c3), hk0]
          exact Or.inl ⟨rfl, rfl, by show s 12 p - 1 ≠ -100; omega⟩
      · obtain ⟨g1, g2⟩ := hs.si2 c2
        have c3 : s 12 p = 0 := by
          apply Classical.byContradiction
          intro z
          have := (hs.re2 z).2.1
          omega
        have hk0 : kpt s p = s 11 p := by unfold kpt; omega
        rw [if_pos ⟨g1, g2, c2⟩, if_pos (by rw [hk0]; exact c2), hk0]
        exact Or.inl ⟨rfl, rfl, by show s 11 p - 1 ≠ -100; omega⟩
def mfin (n t : Nat) (v : Int) (m : St) : Int × St := if t = 0 then (v, m) else mloop n v (mdel m v)
def SIMp (d : Nat) : Prop := ∀ (wk : Nat → Bool) (s m : St) (p t : Nat), Inv s → sem m s → PF m (t + 1) wk → t + d = 36 → p < 36 → m 24 t = (p : Int) → m 25 t = 0 → (s 5 p = 2 ∨ s 5 p = 3) → ¬ (s 5 p = 3 ∧ s 7 p = 2 ∧ s 15 0 = 0) → 0 < d →
  ∃ (c : Nat) (m' : St),
    (0 ≤ (rgo (rget d wk) s p).1 → sem m' (rgo (rget d wk) s p).2 ∧ m' 27 0 = t ∧ low t m' m ∧ (c : Int) + 300 * s 23 0 ≤ 2 * d + 300 * (rgo (rget d wk) s p).2 23 0 ∧ ∀ n, mloop (c + n) (-100) m = mfin n t (rgo (rget d wk) s p).1 m') ∧
    ((rgo (rget d wk) s p).1 < 0 → sem m' (rgo (rget d wk) s p).2 ∧ (c : Int) + 300 * s 23 0 ≤ 300 * d + 300 * (rgo (rget d wk) s p).2 23 0 ∧ ∀ n, mloop (c + n) (-100) m = ((rgo (rget d wk) s p).1, m'))
theorem mloop_err {n : Nat} {v : Int} {m : St} (h1 : v < 0) (h2 : v ≠ -100) : mloop (1 + n) v m = (v, m) := by
  rw [show 1 + n = n + 1 by omega]
  unfold mloop
  by_cases c : m 27 0 ≤ 0
  · rw [if_pos c]
  · rw [if_neg c, if_pos ⟨h1, h2⟩]
theorem mloop_go {n : Nat} {v : Int} {m : St} (ht : 0 < m 27 0) (hv : ¬ (v < 0 ∧ v ≠ -100)) : mloop (n + 1) v m = mcont (mloop n) (mwork m) (m 27 0) := by
  show (if m 27 0 ≤ 0 then _ else _) = _
  rw [if_neg (by omega), if_neg hv]
theorem mpop_27 (m : St) : mpop m 27 0 = m 27 0 - 1 := by
  show iup (m 27) 0 (m 27 0 - 1) 0 = _
  rw [iup_s]
theorem mcont_neg {rec : Int → St → Int × St} {w : Int × St} {tp : Int} (h : w.1 < 0) : mcont rec w tp = rec w.1 w.2 := by
  unfold mcont
  rw [if_pos h]
/-- the top is taken off -/
theorem mcont_pop {n t : Nat} {w : Int × St} (h : 0 ≤ w.1) (ht : w.2 27 0 = (t : Int) + 1) (hno : ¬ (w.2 5 (w.2 24 t).toNat = 2 ∧ w.2 25 t = 0)) : mcont (mloop n) w ((t : Int) + 1) = mfin n t w.1 (mpop w.2) := by
  have e : (w.2 27 0 - 1).toNat = t := by omega
  unfold mcont mfin
  rw [if_neg (by omega), if_neg (fun z => hno (by rw [e] at z; exact z.2)), mpop_27]
  by_cases c : t = 0
  · rw [if_pos (by omega), if_pos c]
  · rw [if_neg (by omega), if_neg c]
theorem sem_mput {m s : St} (h : sem m s) (me : Nat) (v : Int) : sem (mput m me v) s := by
  intro f hf
  unfold mput
  rw [sup_n (by omega), sup_n (by omega)]
  exact h f hf
theorem mput_24 (m : St) (me : Nat) (v : Int) : mput m me v 24 = m 24 := rfl
theorem mput_27 (m : St) (me : Nat) (v : Int) : mput m me v 27 = m 27 := rfl
theorem mput_25 (m : St) (me : Nat) (v : Int) : mput m me v 25 = iup (m 25) me (m 25 me + 1) := rfl
theorem mput_26 (m : St) (me : Nat) (v : Int) : mput m me v 26 = iup (m 26) (4 * me + (m 25 me).toNat) v := rfl
theorem low_mput {m : St} {t : Nat} (v : Int) : low t (mput m t v) m := by
  intro j hj
  refine ⟨rfl, ?_, fun k hk => ?_⟩
  · rw [mput_25, iup_n (by omega)]
  · rw [mput_26, iup_n (by omega)]
theorem stat_mput {m : St} (t : Nat) (v : Int) : ∀ f, f < 24 ∨ 27 < f → mput m t v f = m f := fun f hf => sem_mput (s := m) (fun _ _ => rfl) t v f hf
theorem mwork_at {m : St} {t p : Nat} (ht : m 27 0 = (t : Int) + 1) (hp : m 24 t = (p : Int)) : mwork m = mworkp m t p := by
  unfold mwork
  rw [show (m 27 0 - 1).toNat = t by omega, hp, Int.toNat_natCast]
theorem sem_mk {m s : St} {p : Nat} {v1 v2 : Nat → Int} (h : sem m s) (hv : ∀ k, k < (s 8 p).toNat → v1 k = v2 k) : sem (mk m p v1) (mk s p v2) := by
  intro f hf
  unfold mk
  rw [h 7 (by omega), h 8 (by omega), h 9 (by omega), h 10 (by omega), h 11 (by omega), h 12 (by omega), h 16 (by omega), h 17 (by omega), h 18 (by omega), h 19 (by omega), h 20 (by omega), h 21 (by omega), h 22 (by omega), h 23 (by omega), h f hf, cpn_congr hv]
theorem NEED {d t p : Nat} {wk : Nat → Bool} (hd : t + (d + 1) = 36) (ih : SIMp d) (hp : p < 36) : ∀ (n j : Nat) (s m : St) (vs : Nat → Int), Inv s → sem m s → PF m (t + 1) wk → m 24 t = (p : Int) → m 25 t = (j : Int) → s 8 p = (j : Int) + n → s 5 p = 3 → (∀ k, k < j → m 26 (4 * t + k) = vs k) → (∀ k, 0 ≤ vs k ∧ vs k ≤ 1000000000000) →
    ∃ (c : Nat) (m' : St),
      (0 ≤ (rend p (rneeds (rget (d + 1) wk) p n j s vs)).1 → sem m' (rend p (rneeds (rget (d + 1) wk) p n j s vs)).2 ∧ m' 27 0 = t ∧ low t m' m ∧ (c : Int) + 300 * s 23 0 + 300 ≤ 71 * n + 300 * (rend p (rneeds (rget (d + 1) wk) p n j s vs)).2 23 0 ∧ ∀ n', mcont (mloop (c + n')) (mneeds p t n m) ((t : Int) + 1) = mfin n' t (rend p (rneeds (rget (d + 1) wk) p n j s vs)).1 m') ∧
      ((rend p (rneeds (rget (d + 1) wk) p n j s vs)).1 < 0 → sem m' (rend p (rneeds (rget (d + 1) wk) p n j s vs)).2 ∧ (c : Int) + 300 * s 23 0 ≤ 1 + 71 * n + 300 * d + 300 * (rend p (rneeds (rget (d + 1) wk) p n j s vs)).2 23 0 ∧ ∀ n', mcont (mloop (c + n')) (mneeds p t n m) ((t : Int) + 1) = ((rend p (rneeds (rget (d + 1) wk) p n j s vs)).1, m')) := by
  intro n
  induction n with
  | zero =>
    intro j s m vs hs hm hP h24 h25 h8 h5 hv hr
    have e1 : rneeds (rget (d + 1) wk) p 0 j s vs = (0, s, vs) := rfl
    have e2 : mneeds p t 0 m = mmake m p t := rfl
    rw [e1, e2]
    have hmd := hs.md
    by_cases c : s 23 0 = 100
    · have e3 : rend p (0, s, vs) = (-5, s) := by
        unfold rend
        rw [if_neg (by show ¬ (0 : Int) < 0; omega), if_pos c]
      have e4 : mmake m p t = (-5, m) := by
        unfold mmake
        rw [hm 23 (by omega), if_pos c]
      rw [e3, e4]
      refine ⟨1, m, fun z => absurd z (by show ¬ (0 : Int) ≤ -5; omega), fun _ => ⟨hm, ?_, fun n' => ?_⟩⟩
      · show ((1 : Nat) : Int) + 300 * s 23 0 ≤ 1 + 71 * ((0 : Nat) : Int) + 300 * d + 300 * s 23 0
        omega
      · rw [mcont_neg (by show (-5 : Int) < 0; omega)]
        exact mloop_err (by show (-5 : Int) < 0; omega) (by show (-5 : Int) ≠ -100; omega)
    · have e3 : rend p (0, s, vs) = (s 23 0, mk s p vs) := by
        unfold rend
        rw [if_neg (by show ¬ (0 : Int) < 0; omega), if_neg c]
      have e4 : mmake m p t = (s 23 0, mk m p (fun k => m 26 (4 * t + k))) := by
        unfold mmake
        rw [hm 23 (by omega), if_neg c]
      rw [e3, e4]
      refine ⟨0, mpop (mk m p (fun k => m 26 (4 * t + k))), fun _ => ⟨?_, ?_, ?_, ?_, fun n' => ?_⟩, fun z => absurd z (by show ¬ s 23 0 < 0; omega)⟩
      · intro f hf
        unfold mpop
        rw [sup_n (by omega)]
        exact sem_mk hm (fun k hk => hv k (by omega)) f hf
      · rw [mpop_27, mk_o rfl, hP.1]; omega
      · intro j' hj'
        exact ⟨rfl, rfl, fun _ _ => rfl⟩
      · show ((0 : Nat) : Int) + 300 * s 23 0 + 300 ≤ 71 * ((0 : Nat) : Int) + 300 * mk s p vs 23 0
        rw [mk_23]; omega
      · rw [Nat.zero_add]
        refine mcont_pop (w := (s 23 0, mk m p (fun k => m 26 (4 * t + k)))) (by show 0 ≤ s 23 0; omega) (by show mk m p (fun k => m 26 (4 * t + k)) 27 0 = _; rw [mk_o rfl, hP.1]; omega) ?_
        intro z
        have z1 := z.1
        have e5 : mk m p (fun k => m 26 (4 * t + k)) 24 = m 24 := mk_o rfl
        have e6 : mk m p (fun k => m 26 (4 * t + k)) 5 = m 5 := mk_o rfl
        change mk m p (fun k => m 26 (4 * t + k)) 5 (mk m p (fun k => m 26 (4 * t + k)) 24 t).toNat = 2 at z1
        rw [e5, e6, h24, Int.toNat_natCast, hm 5 (by omega)] at z1
        omega
  | succ n ihn =>
    intro j s m vs hs hm hP h24 h25 h8 h5 hv hr
    have hj4 := hs.nn p
    have hk9 := hs.nk (4 * p + j)
    have eg : (m 25 t).toNat = j := by omega
    -- a value that is there at once
    have now : ∀ v : Int, 0 ≤ v → v ≤ 1000000000000 → mone m p t = (v, m) → rneeds (rget (d + 1) wk) p (n + 1) j s vs = rneeds (rget (d + 1) wk) p n (j + 1) s (iup vs j v) → ∃ (c : Nat) (m' : St),
      (0 ≤ (rend p (rneeds (rget (d + 1) wk) p (n + 1) j s vs)).1 → sem m' (rend p (rneeds (rget (d + 1) wk) p (n + 1) j s vs)).2 ∧ m' 27 0 = t ∧ low t m' m ∧ (c : Int) + 300 * s 23 0 + 300 ≤ 71 * ((n + 1 : Nat) : Int) + 300 * (rend p (rneeds (rget (d + 1) wk) p (n + 1) j s vs)).2 23 0 ∧ ∀ n', mcont (mloop (c + n')) (mneeds p t (n + 1) m) ((t : Int) + 1) = mfin n' t (rend p (rneeds (rget (d + 1) wk) p (n + 1) j s vs)).1 m') ∧
      ((rend p (rneeds (rget (d + 1) wk) p (n + 1) j s vs)).1 < 0 → sem m' (rend p (rneeds (rget (d + 1) wk) p (n + 1) j s vs)).2 ∧ (c : Int) + 300 * s 23 0 ≤ 1 + 71 * ((n + 1 : Nat) : Int) + 300 * d + 300 * (rend p (rneeds (rget (d + 1) wk) p (n + 1) j s vs)).2 23 0 ∧ ∀ n', mcont (mloop (c + n')) (mneeds p t (n + 1) m) ((t : Int) + 1) = ((rend p (rneeds (rget (d + 1) wk) p (n + 1) j s vs)).1, m')) := by
      intro v v0 v1 e1 e2
      have e3 : mneeds p t (n + 1) m = mneeds p t n (mput m t v) := by
        show (if (mone m p t).1 < 0 then _ else _) = _
        rw [e1, if_neg (by show ¬ v < 0; omega)]
      rw [e2, e3]
      obtain ⟨c, m', g1, g2⟩ := ihn (j + 1) s (mput m t v) (iup vs j v) hs (sem_mput hm t v) (hP.low (by rw [mput_27]; exact hP.1) (fun _ _ => rfl)) h24 (by rw [mput_25, iup_s, h25]; omega) (by omega) h5 (fun k hk => by
        rw [mput_26, eg]
        by_cases q : k = j
        · subst q; rw [iup_s, iup_s]
        · rw [iup_n (by omega), iup_n q]; exact hv k (by omega)) (fun k => by
        by_cases q : k = j
        · subst q; rw [iup_s]; omega
        · rw [iup_n q]; exact hr k)
      refine ⟨c, m', fun z => ?_, fun z => ?_⟩
      · obtain ⟨a1, a2, a3, a4, a5⟩ := g1 z
        exact ⟨a1, a2, a3.tr (low_mput v), by omega, a5⟩
      · obtain ⟨a1, a2, a3⟩ := g2 z
        exact ⟨a1, by omega, a3⟩
    by_cases hz : s 10 (4 * p + j) = 1
    · refine now (20000000000 + 16 * ((p / 12 : Nat) : Int) + s 9 (4 * p + j)) (by omega) (by omega) ?_ ?_
      · unfold mone
        rw [eg, hm 10 (by omega), hm 9 (by omega), if_pos hz]
      · show (if s 10 (4 * p + j) = 1 then _ else _) = _
        rw [if_pos hz]
    · have eo : mone m p t = mbegin m (p / 12) (s 9 (4 * p + j)).toNat := by
        unfold mone
        rw [eg, hm 10 (by omega), hm 9 (by omega), if_neg hz]
      have er : rneeds (rget (d + 1) wk) p (n + 1) j s vs = if (rget (d + 1) wk s (p / 12) (s 9 (4 * p + j)).toNat).1 < 0 then ((rget (d + 1) wk s (p / 12) (s 9 (4 * p + j)).toNat).1, (rget (d + 1) wk s (p / 12) (s 9 (4 * p + j)).toNat).2, vs) else rneeds (rget (d + 1) wk) p n (j + 1) (rget (d + 1) wk s (p / 12) (s 9 (4 * p + j)).toNat).2 (iup vs j (rget (d + 1) wk s (p / 12) (s 9 (4 * p + j)).toNat).1) := by
        show (if s 10 (4 * p + j) = 1 then _ else _) = _
        rw [if_neg hz]
      have hok := rget_ok (d + 1) wk s (p / 12) (s 9 (4 * p + j)).toNat hs (by omega) (by omega)
      rcases beg (i := p / 12) (k := (s 9 (4 * p + j)).toNat) hs hm hP (show t + 1 + d = 36 by omega) (by omega) (by omega) with ⟨b1, b2, b3⟩ | ⟨q, hq, b1, b2, b3, b4, b5, b6⟩
      · generalize rget (d + 1) wk s (p / 12) (s 9 (4 * p + j)).toNat = r at er hok b1 b2 b3
        obtain ⟨o1, o2, o3, o4⟩ := hok
        by_cases hneg : r.1 < 0
        · rw [if_pos hneg] at er
          have e3 : mneeds p t (n + 1) m = (r.1, m) := by
            show (if (mone m p t).1 < 0 then _ else _) = _
            rw [eo, b1, if_pos hneg]
          have e4 : rend p (r.1, r.2, vs) = (r.1, r.2) := by
            unfold rend
            rw [if_pos hneg]
          rw [er, e3, e4, b2]
          refine ⟨1, m, fun z => absurd z (by show ¬ 0 ≤ r.1; omega), fun _ => ⟨hm, ?_, fun n' => ?_⟩⟩
          · show ((1 : Nat) : Int) + 300 * s 23 0 ≤ 1 + 71 * ((n + 1 : Nat) : Int) + 300 * d + 300 * s 23 0
            omega
          · rw [mcont_neg (w := (r.1, m)) hneg]
            exact mloop_err hneg b3
        · rw [if_neg hneg, b2] at er
          exact now r.1 (by omega) o4 (by rw [eo, b1]) er
      · have e3 : mneeds p t (n + 1) m = (-100, mpush m q) := by
          show (if (mone m p t).1 < 0 then _ else _) = _
          rw [eo, b1, if_pos (by show (-100 : Int) < 0; omega)]
        obtain ⟨c1, m1, g1, g2⟩ := ih (wadd wk q) s (mpush m q) q (t + 1) hs (sem_push hm) (hP.push hq b6) (by omega) hq (by
          show iup (m 24) (m 27 0).toNat (q : Int) (t + 1) = _
          rw [hP.1, Int.toNat_natCast, iup_s]) (by
          show iup (m 25) (m 27 0).toNat 0 (t + 1) = _
          rw [hP.1, Int.toNat_natCast, iup_s]) b3 b4 b5
        rw [← b2] at g1 g2
        generalize rget (d + 1) wk s (p / 12) (s 9 (4 * p + j)).toNat = r at er hok g1 g2
        obtain ⟨o1, o2, o3, o4⟩ := hok
        have hmono := o2.2.1
        have hpl : low (t + 1) (mpush m q) m := by
          intro j' hj'
          refine ⟨?_, ?_, fun _ _ => rfl⟩
          · show iup (m 24) (m 27 0).toNat (q : Int) j' = _
            rw [hP.1, Int.toNat_natCast, iup_n (by omega)]
          · show iup (m 25) (m 27 0).toNat 0 j' = _
            rw [hP.1, Int.toNat_natCast, iup_n (by omega)]
        by_cases hneg : r.1 < 0
        · obtain ⟨a1, a2, a3⟩ := g2 hneg
          rw [if_pos hneg] at er
          have e4 : rend p (r.1, r.2, vs) = (r.1, r.2) := by
            unfold rend
            rw [if_pos hneg]
          rw [er, e3, e4]
          refine ⟨c1, m1, fun z => absurd z (by show ¬ 0 ≤ r.1; omega), fun _ => ⟨a1, ?_, fun n' => ?_⟩⟩
          · show (c1 : Int) + 300 * s 23 0 ≤ 1 + 71 * ((n + 1 : Nat) : Int) + 300 * d + 300 * r.2 23 0
            omega
          · rw [mcont_neg (by show (-100 : Int) < 0; omega)]
            exact a3 n'
        · obtain ⟨a1, a2, a3, a4, a5⟩ := g1 (by omega)
          rw [if_neg hneg] at er
          have l1 := a3.tr hpl
          have l1t := l1 t (by omega)
          have stt := o2.1
          have ed : mdel m1 r.1 = mput m1 t r.1 := by
            unfold mdel
            rw [show (m1 27 0 - 1).toNat = t by omega]
          have eg1 : (m1 25 t).toNat = j := by rw [l1t.2.1]; exact eg
          obtain ⟨c2, m', k1, k2⟩ := ihn (j + 1) r.2 (mput m1 t r.1) (iup vs j r.1) o1 (sem_mput a1 t r.1) (hP.low (by rw [mput_27]; omega) (fun i hi => (l1 i hi).1)) (by rw [mput_24, l1t.1]; exact h24) (by rw [mput_25, iup_s, l1t.2.1, h25]; omega) (by rw [stt 8 rfl]; omega) (by rw [stt 5 rfl]; exact h5) (fun k hk => by
            rw [mput_26, eg1]
            by_cases qk : k = j
            · subst qk; rw [iup_s, iup_s]
            · rw [iup_n (by omega), iup_n qk, l1t.2.2 k (by omega)]; exact hv k (by omega)) (fun k => by
            by_cases qk : k = j
            · subst qk; rw [iup_s]; omega
            · rw [iup_n qk]; exact hr k)
          have step : ∀ n', mcont (mloop (c1 + (c2 + 1) + n')) (mneeds p t (n + 1) m) ((t : Int) + 1) = mcont (mloop (c2 + n')) (mneeds p t n (mput m1 t r.1)) ((t : Int) + 1) := by
            intro n'
            rw [e3, mcont_neg (by show (-100 : Int) < 0; omega)]
            show mloop (c1 + (c2 + 1) + n') (-100) (mpush m q) = _
            rw [show c1 + (c2 + 1) + n' = c1 + (c2 + n' + 1) by omega, a5]
            unfold mfin
            have t27 : mput m1 t r.1 27 0 = (t : Int) + 1 := by rw [mput_27]; omega
            rw [if_neg (by omega), ed, mloop_go (by omega) (by omega), t27]
            rw [mwork_at (p := p) t27 (by rw [mput_24, l1t.1]; exact h24)]
            unfold mworkp
            have e5 : mput m1 t r.1 5 = s 5 := by rw [stat_mput t r.1 5 (by omega), a1 5 (by omega), stt 5 rfl]
            have e8 : mput m1 t r.1 8 = s 8 := by rw [stat_mput t r.1 8 (by omega), a1 8 (by omega), stt 8 rfl]
            rw [e5, e8, if_neg (by omega), mput_25, iup_s, l1t.2.1, h25, h8]
            rw [show ((j : Int) + ((n + 1 : Nat) : Int) - ((j : Int) + 1)).toNat = n by omega]
          rw [er]
          refine ⟨c1 + (c2 + 1), m', fun z => ?_, fun z => ?_⟩
          · obtain ⟨x1, x2, x3, x4, x5⟩ := k1 z
            refine ⟨x1, x2, x3.tr ((low_mput r.1).tr (fun i hi => l1 i (by omega))), ?_, fun n' => ?_⟩
            · omega
            · rw [step n', x5]
          · obtain ⟨x1, x2, x3⟩ := k2 z
            refine ⟨x1, ?_, fun n' => ?_⟩
            · omega
            · rw [step n', x3]
theorem SIM : ∀ d, SIMp d
  | 0 => fun _ _ _ _ _ _ _ _ _ _ _ _ _ _ h => absurd h (by omega)
  | d + 1 => by
    have ih := SIM d
    intro wk s m p t hs hm hP htd hp h24 h25 h5 hno _
    have t27 : m 27 0 = (t : Int) + 1 := by rw [hP.1]; omega
    have hgo : ∀ n, mloop (n + 1) (-100) m = mcont (mloop n) (mworkp m t p) ((t : Int) + 1) := fun n => by
      rw [mloop_go (by omega) (by omega), t27, mwork_at t27 h24]
    have hmd := hs.md
    by_cases c : s 5 p = 2
    · have er : rgo (rget (d + 1) wk) s p = rget (d + 1) wk s (p / 12) (s 6 p).toNat := by
        unfold rgo
        rw [if_pos c]
      have hlk := hs.lk c
      have ew : mworkp m t p = mbegin m (p / 12) (s 6 p).toNat := by
        unfold mworkp
        rw [hm 5 (by omega), if_pos c, if_pos h25, hm 6 (by omega)]
      have hok := rget_ok (d + 1) wk s (p / 12) (s 6 p).toNat hs (by omega) (by omega)
      -- the link has its value
      have fini : ∀ (n : Nat) (v u : Int) (m1 : St), 0 ≤ v → ¬ (u < 0 ∧ u ≠ -100) → m1 27 0 = (t : Int) + 1 → m1 24 t = (p : Int) → m1 5 = s 5 → m1 25 t = 1 → m1 26 (4 * t) = v → mloop (n + 1) u m1 = mfin n t v (mpop m1) := by
        intro n v u m1 f0 fu f1 f2 f3 f4 f5
        rw [mloop_go (by omega) fu, f1, mwork_at f1 f2]
        have e9 : mworkp m1 t p = (v, m1) := by
          unfold mworkp
          rw [f3, if_pos c, if_neg (by omega), f5]
        rw [e9]
        exact mcont_pop (w := (v, m1)) f0 f1 (fun z => by have z2 : m1 25 t = 0 := z.2; omega)
      rw [er]
      rcases beg (i := p / 12) (k := (s 6 p).toNat) hs hm hP (show t + 1 + d = 36 by omega) (by omega) (by omega) with ⟨b1, b2, b3⟩ | ⟨q, hq, b1, b2, b3, b4, b5, b6⟩
      · generalize rget (d + 1) wk s (p / 12) (s 6 p).toNat = r at hok b1 b2 b3
        by_cases hneg : r.1 < 0
        · refine ⟨2, m, fun z => absurd z (by omega), fun _ => ⟨by rw [b2]; exact hm, ?_, fun n => ?_⟩⟩
          · rw [b2]; omega
          · rw [show 2 + n = (1 + n) + 1 by omega, hgo, ew, b1, mcont_neg (w := (r.1, m)) hneg]
            exact mloop_err hneg b3
        · refine ⟨2, mpop (mtk m r.1), fun _ => ⟨?_, ?_, ?_, ?_, fun n => ?_⟩, fun z => absurd z hneg⟩
          · intro f hf
            unfold mpop mtk
            rw [sup_n (by omega), sup_n (by omega), sup_n (by omega), b2]
            exact hm f hf
          · rw [mpop_27]
            show m 27 0 - 1 = _
            omega
          · intro j hj
            have et : (m 27 0 - 1).toNat = t := by omega
            refine ⟨rfl, ?_, fun k hk => ?_⟩
            · show iup (m 25) (m 27 0 - 1).toNat 1 j = _
              rw [et, iup_n (by omega)]
            · show iup (m 26) (4 * (m 27 0 - 1).toNat) r.1 (4 * j + k) = _
              rw [et, iup_n (by omega)]
          · rw [b2]; omega
          · rw [show 2 + n = (n + 1) + 1 by omega, hgo, ew, b1]
            have et : (m 27 0 - 1).toNat = t := by omega
            have e1 : mcont (mloop (n + 1)) (r.1, m) ((t : Int) + 1) = mloop (n + 1) r.1 (mtk m r.1) := by
              unfold mcont
              rw [if_neg hneg, if_pos ⟨t27, by show m 5 (m 24 (m 27 0 - 1).toNat).toNat = 2; rw [et, h24, Int.toNat_natCast, hm 5 (by omega)]; exact c, by show m 25 (m 27 0 - 1).toNat = 0; rw [et]; exact h25⟩]
            rw [e1]
            refine fini n r.1 r.1 (mtk m r.1) (by omega) (by omega) t27 h24 (hm 5 (by omega)) ?_ ?_
            · show iup (m 25) (m 27 0 - 1).toNat 1 t = 1
              rw [et, iup_s]
            · show iup (m 26) (4 * (m 27 0 - 1).toNat) r.1 (4 * t) = r.1
              rw [et, iup_s]
      · obtain ⟨c1, m1, g1, g2⟩ := ih (wadd wk q) s (mpush m q) q (t + 1) hs (sem_push hm) (hP.push hq b6) (by omega) hq (by
          show iup (m 24) (m 27 0).toNat (q : Int) (t + 1) = _
          rw [hP.1, Int.toNat_natCast, iup_s]) (by
          show iup (m 25) (m 27 0).toNat 0 (t + 1) = _
          rw [hP.1, Int.toNat_natCast, iup_s]) b3 b4 b5
        rw [← b2] at g1 g2
        generalize rget (d + 1) wk s (p / 12) (s 6 p).toNat = r at hok g1 g2
        obtain ⟨o1, o2, o3, o4⟩ := hok
        by_cases hneg : r.1 < 0
        · obtain ⟨a1, a2, a3⟩ := g2 hneg
          refine ⟨c1 + 1, m1, fun z => absurd z (by omega), fun _ => ⟨a1, by omega, fun n => ?_⟩⟩
          · rw [show c1 + 1 + n = (c1 + n) + 1 by omega, hgo, ew, b1, mcont_neg (by show (-100 : Int) < 0; omega)]
            exact a3 n
        · obtain ⟨a1, a2, a3, a4, a5⟩ := g1 (by omega)
          have l1t := a3 t (by omega)
          have p24 : mpush m q 24 t = m 24 t := by
            show iup (m 24) (m 27 0).toNat (q : Int) t = _
            rw [hP.1, Int.toNat_natCast, iup_n (by omega)]
          have p25 : mpush m q 25 t = m 25 t := by
            show iup (m 25) (m 27 0).toNat 0 t = _
            rw [hP.1, Int.toNat_natCast, iup_n (by omega)]
          have ed : mdel m1 r.1 = mput m1 t r.1 := by
            unfold mdel
            rw [show (m1 27 0 - 1).toNat = t by omega]
          have eg1 : m1 25 t = 0 := by rw [l1t.2.1, p25]; exact h25
          refine ⟨c1 + 2, mpop (mput m1 t r.1), fun _ => ⟨?_, ?_, ?_, by omega, fun n => ?_⟩, fun z => absurd z hneg⟩
          · intro f hf
            unfold mpop
            rw [sup_n (by omega)]
            exact sem_mput a1 t r.1 f hf
          · rw [mpop_27, mput_27]; omega
          · intro j hj
            have lm := low_mput (m := m1) (t := t) r.1 j hj
            have l2 := a3 j (by omega)
            refine ⟨lm.1.trans (l2.1.trans ?_), lm.2.1.trans (l2.2.1.trans ?_), fun k hk => (lm.2.2 k hk).trans (l2.2.2 k hk)⟩
            · show iup (m 24) (m 27 0).toNat (q : Int) j = _
              rw [hP.1, Int.toNat_natCast, iup_n (by omega)]
            · show iup (m 25) (m 27 0).toNat 0 j = _
              rw [hP.1, Int.toNat_natCast, iup_n (by omega)]
          · rw [show c1 + 2 + n = (c1 + (n + 1)) + 1 by omega, hgo, ew, b1, mcont_neg (by show (-100 : Int) < 0; omega)]
            show mloop (c1 + (n + 1)) (-100) (mpush m q) = _
            rw [a5]
            unfold mfin
            rw [if_neg (show ¬ t + 1 = 0 by omega), ed]
            refine fini n r.1 r.1 (mput m1 t r.1) (by omega) (by omega) (by rw [mput_27]; omega) (by rw [mput_24, l1t.1, p24]; exact h24) ?_ ?_ ?_
            · rw [stat_mput t r.1 5 (by omega), a1 5 (by omega), o2.1 5 rfl]
            · rw [mput_25, iup_s, eg1]; omega
            · rw [mput_26, eg1]
              show iup (m1 26) (4 * t + 0) r.1 (4 * t) = r.1
              rw [Nat.add_zero, iup_s]
    · have h3 : s 5 p = 3 := by omega
      have hno2 : ¬ (s 7 p = 2 ∧ s 15 0 = 0) := fun z => hno ⟨h3, z⟩
      have hnn := hs.nn p
      have er : rgo (rget (d + 1) wk) s p = rend p (rneeds (rget (d + 1) wk) p (s 8 p).toNat 0 s (fun _ => 0)) := by
        unfold rgo
        rw [if_neg c, if_neg hno2]
      have ew : mworkp m t p = mneeds p t (s 8 p).toNat m := by
        unfold mworkp
        rw [hm 5 (by omega), if_neg c, hm 8 (by omega), h25, Int.sub_zero]
      obtain ⟨c1, m1, g1, g2⟩ := NEED (wk := wk) htd ih hp (s 8 p).toNat 0 s m (fun _ => 0) hs hm hP h24 h25 (by omega) h3 (fun k hk => absurd hk (by omega)) (fun _ => by omega)
      rw [er]
      have hok := rneeds_ok (rget_ok (d + 1) wk) hp (s 8 p).toNat 0 s (fun _ => 0) hs (fun _ => by omega)
      refine ⟨c1 + 1, m1, fun z => ?_, fun z => ?_⟩
      · obtain ⟨a1, a2, a3, a4, a5⟩ := g1 z
        refine ⟨a1, a2, a3, by omega, fun n => ?_⟩
        rw [show c1 + 1 + n = (c1 + n) + 1 by omega, hgo, ew, a5]
      · obtain ⟨a1, a2, a3⟩ := g2 z
        refine ⟨a1, by omega, fun n => ?_⟩
        rw [show c1 + 1 + n = (c1 + n) + 1 by omega, hgo, ew, a3]
/-- gets: value and state are those of the getting, but for the machine's own fields -/
theorem mgets_ok {s : St} (hs : Inv s) {i k : Nat} (hi : i < 3) (hk : k < 12) : (mgets s i k).1 = (rget 37 (fun _ => false) s i k).1 ∧ sem (mgets s i k).2 (rget 37 (fun _ => false) s i k).2 := by
  unfold mgets
  have hP : PF (sup s 27 0 0) 0 (fun _ => false) := by
    refine ⟨show iup (s 27) 0 0 0 = _ from iup_s _ _ _, fun j hj => absurd hj (by omega), fun a b ha => absurd ha (by omega), fun q => ⟨fun h => by simp at h, fun ⟨j, hj, _⟩ => absurd hj (by omega)⟩⟩
  have hm : sem (sup s 27 0 0) s := fun f hf => sup_n (by omega)
  have h0 : sup s 27 0 0 27 0 = 0 := show iup (s 27) 0 0 0 = _ from iup_s _ _ _
  have hok := rget_ok 37 (fun _ => false) s i k hs hi hk
  rcases beg (i := i) (k := k) hs hm hP (show 0 + 36 = 36 by omega) hi hk with ⟨b1, b2, b3⟩ | ⟨q, hq, b1, b2, b3, b4, b5, b6⟩
  · rw [b1]
    have e1 : ∀ v : Int, mloop 100000 v (sup s 27 0 0) = (v, sup s 27 0 0) := fun v => by
      show (if sup s 27 0 0 27 0 ≤ 0 then _ else _) = _
      rw [if_pos (by omega)]
    show (mloop 100000 (rget 37 (fun _ => false) s i k).1 (sup s 27 0 0)).1 = _ ∧ sem (mloop 100000 (rget 37 (fun _ => false) s i k).1 (sup s 27 0 0)).2 _
    rw [e1]
    refine ⟨rfl, ?_⟩
    show sem (sup s 27 0 0) (rget (36 + 1) (fun _ => false) s i k).2
    rw [b2]
    exact hm
  · rw [b1]
    show (mloop 100000 (-100) (mpush (sup s 27 0 0) q)).1 = _ ∧ sem (mloop 100000 (-100) (mpush (sup s 27 0 0) q)).2 _
    have b2 : rget 37 (fun _ => false) s i k = rgo (rget 36 (wadd (fun _ => false) q)) s q := b2
    obtain ⟨c, m', g1, g2⟩ := SIM 36 (wadd (fun _ => false) q) s (mpush (sup s 27 0 0) q) q 0 hs (sem_push hm) (hP.push hq b6) (by omega) hq (by
      show iup (s 24) (sup s 27 0 0 27 0).toNat (q : Int) 0 = _
      rw [h0]; exact iup_s _ _ _) (by
      show iup (s 25) (sup s 27 0 0 27 0).toNat 0 0 = _
      rw [h0]; exact iup_s _ _ _) b3 b4 b5
    rw [← b2] at g1 g2
    have hmd := hok.1.md
    have hmd2 := hs.md
    by_cases hneg : (rget 37 (fun _ => false) s i k).1 < 0
    · obtain ⟨a1, a2, a3⟩ := g2 hneg
      rw [show 100000 = c + (100000 - c) by omega, a3]
      exact ⟨rfl, a1⟩
    · obtain ⟨a1, a2, a3, a4, a5⟩ := g1 (by omega)
      rw [show 100000 = c + (100000 - c) by omega, a5]
      exact ⟨rfl, a1⟩
end
section
/-! what a getting reads: the core -/
def core (f : Nat) : Bool := decide (f ≤ 12) || f == 15 || f == 23
def ceq (a b : St) : Prop := ∀ f, core f = true → a f = b f
theorem ceq.rf (a : St) : ceq a a := fun _ _ => rfl
theorem ceq.sy {a b : St} (h : ceq a b) : ceq b a := fun f hf => (h f hf).symm
theorem ceq.tr {a b c : St} (h : ceq a b) (k : ceq b c) : ceq a c := fun f hf => (h f hf).trans (k f hf)
theorem ceq_mk {a b : St} (h : ceq a b) (p : Nat) (v w : Nat → Int) : ceq (mk a p v) (mk b p w) := by
  intro f hf
  by_cases c1 : f = 11
  · subst c1
    show (if a 7 p = 1 then iup (a 11) p (a 23 0 + 1) else a 11) = (if b 7 p = 1 then iup (b 11) p (b 23 0 + 1) else b 11)
    rw [h 7 rfl, h 11 rfl, h 23 rfl]
  · by_cases c2 : f = 12
    · subst c2
      show (if a 7 p = 2 then iup (a 12) p (a 23 0 + 1) else a 12) = (if b 7 p = 2 then iup (b 12) p (b 23 0 + 1) else b 12)
      rw [h 7 rfl, h 12 rfl, h 23 rfl]
    · by_cases c3 : f = 23
      · subst c3
        show iup (a 23) 0 (a 23 0 + 1) = iup (b 23) 0 (b 23 0 + 1)
        rw [h 23 rfl]
      · have hd : dyn f = false := by
          simp only [core, Bool.or_eq_true, decide_eq_true_eq, beq_iff_eq] at hf
          simp only [dyn, Bool.or_eq_false_iff, beq_eq_false_iff_ne, Bool.and_eq_false_iff, decide_eq_false_iff_not]
          omega
        rw [mk_o hd, mk_o hd]
        exact h f hf
def gcg (g : St → Nat → Nat → Int × St) : Prop := ∀ (a b : St) (i k : Nat), ceq a b → (g a i k).1 = (g b i k).1 ∧ ceq (g a i k).2 (g b i k).2
theorem rneeds_cg {g : St → Nat → Nat → Int × St} (hg : gcg g) (p : Nat) : ∀ (n j : Nat) (a b : St) (vs : Nat → Int), ceq a b → (rneeds g p n j a vs).1 = (rneeds g p n j b vs).1 ∧ ceq (rneeds g p n j a vs).2.1 (rneeds g p n j b vs).2.1 ∧ (rneeds g p n j a vs).2.2 = (rneeds g p n j b vs).2.2
  | 0, _, a, b, vs, h => ⟨rfl, h, rfl⟩
  | n + 1, j, a, b, vs, h => by
    unfold rneeds
    rw [h 10 rfl, h 9 rfl]
    have hh := hg a b (p / 12) (b 9 (4 * p + j)).toNat h
    by_cases c : b 10 (4 * p + j) = 1
    · rw [if_pos c, if_pos c]
      exact rneeds_cg hg p n (j + 1) a b _ h
    · rw [if_neg c, if_neg c, hh.1]
      by_cases c2 : (g b (p / 12) (b 9 (4 * p + j)).toNat).1 < 0
      · rw [if_pos c2, if_pos c2]
        exact ⟨rfl, hh.2, rfl⟩
      · rw [if_neg c2, if_neg c2]
        exact rneeds_cg hg p n (j + 1) _ _ _ hh.2
theorem rgo_cg {g : St → Nat → Nat → Int × St} (hg : gcg g) {a b : St} (h : ceq a b) (p : Nat) : (rgo g a p).1 = (rgo g b p).1 ∧ ceq (rgo g a p).2 (rgo g b p).2 := by
  unfold rgo
  rw [h 5 rfl, h 6 rfl, h 7 rfl, h 8 rfl, h 15 rfl]
  by_cases c : b 5 p = 2
  · rw [if_pos c, if_pos c]
    exact hg a b _ _ h
  · rw [if_neg c, if_neg c]
    by_cases c2 : b 7 p = 2 ∧ b 15 0 = 0
    · rw [if_pos c2, if_pos c2]
      exact ⟨rfl, h⟩
    · rw [if_neg c2, if_neg c2]
      obtain ⟨e1, e2, e3⟩ := rneeds_cg hg p (b 8 p).toNat 0 a b (fun _ => 0) h
      unfold rend
      rw [e1, e2 23 rfl]
      by_cases c3 : (rneeds g p (b 8 p).toNat 0 b (fun _ => 0)).1 < 0
      · rw [if_pos c3, if_pos c3]
        exact ⟨rfl, e2⟩
      · rw [if_neg c3, if_neg c3]
        by_cases c4 : (rneeds g p (b 8 p).toNat 0 b (fun _ => 0)).2.1 23 0 = 100
        · rw [if_pos c4, if_pos c4]
          exact ⟨rfl, e2⟩
        · rw [if_neg c4, if_neg c4]
          exact ⟨rfl, ceq_mk e2 p _ _⟩
theorem rget_cg : ∀ (d : Nat) (wk : Nat → Bool), gcg (rget d wk)
  | 0, _ => fun a b i k h => ⟨rfl, h⟩
  | d + 1, wk => by
    intro a b i k h
    unfold rget
    rw [sn_congr (h 0 rfl) (h 5 rfl) i k, h 5 rfl, h 6 rfl, show kpt a = kpt b from by funext p; unfold kpt; rw [h 11 rfl, h 12 rfl]]
    by_cases c : sn b i k < 0
    · rw [if_pos c, if_pos c]; exact ⟨rfl, h⟩
    · rw [if_neg c, if_neg c]
      by_cases c1 : b 5 (sn b i k).toNat = 1
      · rw [if_pos c1, if_pos c1]; exact ⟨rfl, h⟩
      · rw [if_neg c1, if_neg c1]
        by_cases c2 : kpt b (sn b i k).toNat ≠ 0
        · rw [if_pos c2, if_pos c2]; exact ⟨rfl, h⟩
        · rw [if_neg c2, if_neg c2]
          by_cases c3 : wk (sn b i k).toNat = true ∨ d = 0
          · rw [if_pos c3, if_pos c3]; exact ⟨rfl, h⟩
          · rw [if_neg c3, if_neg c3]
            exact rgo_cg (rget_cg d _) h _
/-- the same state, but for what no call shows: the machine's own fields, the old copies, instances that are not made -/
def seq (a b : St) : Prop := ceq a b ∧ (∀ i : Nat, (i : Int) < b 23 0 → a 16 i = b 16 i ∧ a 17 i = b 17 i ∧ a 18 i = b 18 i ∧ a 19 i = b 19 i) ∧ ∀ j : Nat, (j : Int) < 4 * b 23 0 → a 20 j = b 20 j ∧ a 21 j = b 21 j ∧ a 22 j = b 22 j
theorem seq.rf (a : St) : seq a a := ⟨ceq.rf a, fun _ _ => ⟨rfl, rfl, rfl, rfl⟩, fun _ _ => ⟨rfl, rfl, rfl⟩⟩
theorem seq.sy {a b : St} (h : seq a b) : seq b a := by
  have e := h.1 23 rfl
  exact ⟨h.1.sy, fun i hi => by have := h.2.1 i (by rw [← e]; exact hi); omega, fun j hj => by have := h.2.2 j (by rw [← e]; exact hj); omega⟩
theorem seq.tr {a b c : St} (h : seq a b) (k : seq b c) : seq a c := by
  have e := k.1 23 rfl
  exact ⟨h.1.tr k.1, fun i hi => by have := h.2.1 i (by rw [e]; exact hi); have := k.2.1 i hi; omega, fun j hj => by have := h.2.2 j (by rw [e]; exact hj); have := k.2.2 j hj; omega⟩
theorem sem_seq {a b : St} (h : sem a b) : seq a b := ⟨fun f hf => h f (by simp only [core, Bool.or_eq_true, decide_eq_true_eq, beq_iff_eq] at hf; omega), fun i _ => by rw [h 16 (by omega), h 17 (by omega), h 18 (by omega), h 19 (by omega)]; exact ⟨rfl, rfl, rfl, rfl⟩, fun i _ => by rw [h 20 (by omega), h 21 (by omega), h 22 (by omega)]; exact ⟨rfl, rfl, rfl⟩⟩
end
section
/-! REACH: sets of pairs as masks -/
def nxn (st : St) (a : Nat) : Nat → Nat
  | 0 => 0
  | n + 1 => nxn st a n ||| 2 ^ (a / 12 * 12 + (st 9 (4 * a + n)).toNat)
def nxa (st : St) (a : Nat) : Nat := if st 5 a = 2 then 2 ^ (a / 12 * 12 + (st 6 a).toNat) else if st 5 a = 3 then nxn st a (st 8 a).toNat else 0
def nxt (st : St) (p : Nat) : Nat := if sn st (p / 12) (p % 12) < 0 then 0 else nxa st (sn st (p / 12) (p % 12)).toNat
def bsub (M N : Nat) : Prop := ∀ q, M.testBit q = true → N.testBit q = true
def closed (st : St) (M : Nat) : Prop := ∀ p, p < 36 → M.testBit p = true → bsub (nxt st p) M
theorem bsub.rf (M : Nat) : bsub M M := fun _ h => h
theorem bsub.tr {a b c : Nat} (h : bsub a b) (k : bsub b c) : bsub a c := fun q hq => k q (h q hq)
theorem bsub.orl (a b : Nat) : bsub a (a ||| b) := fun q h => by rw [Nat.testBit_or, h]; rfl
theorem bsub.orr (a b : Nat) : bsub b (a ||| b) := fun q h => by rw [Nat.testBit_or, h, Bool.or_true]
theorem bsub.or {a b c : Nat} (h : bsub a c) (k : bsub b c) : bsub (a ||| b) c := fun q hq => by
  rw [Nat.testBit_or, Bool.or_eq_true] at hq
  exact hq.elim (h q) (k q)
theorem bsub.eq {a b : Nat} (h : bsub a b) (k : bsub b a) : a = b := by
  apply Nat.eq_of_testBit_eq
  intro i
  cases e : a.testBit i with
  | true => exact (h i e).symm
  | false =>
    cases e2 : b.testBit i with
    | true => exact (by rw [k i e2] at e; cases e)
    | false => rfl
theorem bit_lt {M q n : Nat} (h : M < 2 ^ n) (hq : M.testBit q = true) : q < n := by
  apply Classical.byContradiction
  intro c
  have : M < 2 ^ q := Nat.lt_of_lt_of_le h (Nat.pow_le_pow_right (by omega) (by omega))
  rw [Nat.testBit_lt_two_pow this] at hq
  cases hq
theorem pow_lt36 {q : Nat} (h : q < 36) : 2 ^ q < 2 ^ 36 := Nat.pow_lt_pow_right (by omega) h
theorem nxn_lt {st : St} (hs : Inv st) {a : Nat} (ha : a < 36) : ∀ n, nxn st a n < 2 ^ 36
  | 0 => by show 0 < 2 ^ 36; decide
  | n + 1 => by
    have := hs.nk (4 * a + n)
    exact Nat.or_lt_two_pow (nxn_lt hs ha n) (pow_lt36 (by omega))
theorem nxa_lt {st : St} (hs : Inv st) {a : Nat} (ha : a < 36) : nxa st a < 2 ^ 36 := by
  unfold nxa
  by_cases c : st 5 a = 2
  · rw [if_pos c]
    have := hs.lk c
    exact pow_lt36 (by omega)
  · rw [if_neg c]
    by_cases c2 : st 5 a = 3
    · rw [if_pos c2]; exact nxn_lt hs ha _
    · rw [if_neg c2]; decide
theorem nxt_lt {st : St} (hs : Inv st) {p : Nat} (hp : p < 36) : nxt st p < 2 ^ 36 := by
  unfold nxt
  by_cases c : sn st (p / 12) (p % 12) < 0
  · rw [if_pos c]; decide
  · rw [if_neg c]
    obtain ⟨a, ha, e, -⟩ := hs.seen (i := p / 12) (key := p % 12) (by omega) (by omega) c
    rw [e, Int.toNat_natCast]
    exact nxa_lt hs ha
/-- M is what is come to from p0 -/
def clo (st : St) (p0 M : Nat) : Prop := M < 2 ^ 36 ∧ M.testBit p0 = true ∧ closed st M ∧ ∀ N, N.testBit p0 = true → closed st N → bsub M N
theorem clo.eq {st : St} {p0 M N : Nat} (h : clo st p0 M) (k : clo st p0 N) : M = N := bsub.eq (h.2.2.2 N k.2.1 k.2.2.1) (k.2.2.2 M h.2.1 h.2.2.1)
/-! counting bits -/
def cntn (M : Nat) : Nat → Nat
  | 0 => 0
  | n + 1 => cntn M n + (if M.testBit n = true then 1 else 0)
theorem cntn_le (M : Nat) : ∀ n, cntn M n ≤ n
  | 0 => Nat.le_refl 0
  | n + 1 => by
    have := cntn_le M n
    show cntn M n + (if M.testBit n = true then 1 else 0) ≤ n + 1
    split <;> omega
theorem cntn_sub {M N : Nat} (h : bsub M N) : ∀ n, cntn M n ≤ cntn N n ∧ (cntn N n ≤ cntn M n → ∀ q, q < n → N.testBit q = true → M.testBit q = true)
  | 0 => ⟨Nat.le_refl 0, fun _ q hq => absurd hq (by omega)⟩
  | n + 1 => by
    obtain ⟨h1, h2⟩ := cntn_sub h n
    have hn := h n
    show cntn M n + (if M.testBit n = true then 1 else 0) ≤ cntn N n + (if N.testBit n = true then 1 else 0) ∧ (cntn N n + (if N.testBit n = true then 1 else 0) ≤ cntn M n + (if M.testBit n = true then 1 else 0) → _)
    by_cases c : M.testBit n = true
    · rw [if_pos c, if_pos (hn c)]
      refine ⟨by omega, fun z q hq hb => ?_⟩
      by_cases e : q = n
      · subst e; exact c
      · exact h2 (by omega) q (by omega) hb
    · rw [if_neg c]
      by_cases c2 : N.testBit n = true
      · rw [if_pos c2]
        exact ⟨by omega, fun z => absurd z (by omega)⟩
      · rw [if_neg c2]
        refine ⟨by omega, fun z q hq hb => ?_⟩
        by_cases e : q = n
        · subst e; exact absurd hb c2
        · exact h2 (by omega) q (by omega) hb
theorem cntn_or {a b : Nat} (h : ∀ q, a.testBit q = true → b.testBit q = false) : ∀ n, cntn (a ||| b) n = cntn a n + cntn b n
  | 0 => rfl
  | n + 1 => by
    have ih := cntn_or h n
    show cntn (a ||| b) n + (if (a ||| b).testBit n = true then 1 else 0) = cntn a n + (if a.testBit n = true then 1 else 0) + (cntn b n + (if b.testBit n = true then 1 else 0))
    rw [ih, Nat.testBit_or]
    by_cases c : a.testBit n = true
    · rw [c, h n c]; simp; omega
    · rw [Bool.eq_false_iff.mpr c]; simp; omega
theorem cntn_pos {M q : Nat} (hq : M.testBit q = true) : ∀ n, q < n → 0 < cntn M n
  | 0, h => absurd h (by omega)
  | n + 1, h => by
    show 0 < cntn M n + (if M.testBit n = true then 1 else 0)
    by_cases e : q = n
    · subst e; rw [if_pos hq]; omega
    · have := cntn_pos hq n (by omega); omega
/-! the reference: 36 times round -/
def mstep (st : St) (M p : Nat) : Nat := if M.testBit p = true then M ||| nxt st p else M
def mrun (st : St) : Nat → Nat → Nat → Nat
  | 0, _, M => M
  | n + 1, k, M => mrun st n (k + 1) (mstep st M (k % 36))
theorem mstep_up (st : St) (M p : Nat) : bsub M (mstep st M p) := by
  unfold mstep
  split
  · exact bsub.orl _ _
  · exact bsub.rf _
theorem mrun_up (st : St) : ∀ n k M, bsub M (mrun st n k M)
  | 0, _, M => bsub.rf M
  | n + 1, k, M => (mstep_up st M _).tr (mrun_up st n (k + 1) _)
theorem mrun_lt {st : St} (hs : Inv st) : ∀ n k M, M < 2 ^ 36 → mrun st n k M < 2 ^ 36
  | 0, _, _, h => h
  | n + 1, k, M, h => by
    refine mrun_lt hs n (k + 1) _ ?_
    unfold mstep
    split
    · exact Nat.or_lt_two_pow h (nxt_lt hs (Nat.mod_lt _ (by omega)))
    · exact h
theorem mrun_least {st : St} {N : Nat} (hN : closed st N) : ∀ n k M, bsub M N → bsub (mrun st n k M) N
  | 0, _, _, h => h
  | n + 1, k, M, h => by
    refine mrun_least hN n (k + 1) _ ?_
    unfold mstep
    split
    · rename_i c
      exact h.or (hN _ (Nat.mod_lt _ (by omega)) (h _ c))
    · exact h
theorem mrun_in {st : St} {p : Nat} (hp : p < 36) : ∀ n k M, k ≤ p → p < k + n → M.testBit p = true → bsub (nxt st p) (mrun st n k M)
  | 0, k, M, h1, h2, _ => absurd h2 (by omega)
  | n + 1, k, M, h1, h2, hb => by
    by_cases e : k = p
    · subst e
      refine bsub.tr ?_ (mrun_up st n (k + 1) _)
      unfold mstep
      rw [Nat.mod_eq_of_lt hp, if_pos hb]
      exact bsub.orr _ _
    · exact mrun_in hp n (k + 1) _ (by omega) (by omega) (mstep_up st M _ p hb)
theorem mrun_per (st : St) : ∀ n k M, mrun st n (k + 36) M = mrun st n k M
  | 0, _, _ => rfl
  | n + 1, k, M => by
    show mrun st n (k + 36 + 1) (mstep st M ((k + 36) % 36)) = mrun st n (k + 1) (mstep st M (k % 36))
    rw [Nat.add_mod_right, show k + 36 + 1 = k + 1 + 36 by omega, mrun_per st n (k + 1)]
theorem mrun_add (st : St) : ∀ a b k M, mrun st (a + b) k M = mrun st b (k + a) (mrun st a k M)
  | 0, b, k, M => by rw [Nat.zero_add]; rfl
  | a + 1, b, k, M => by
    rw [show a + 1 + b = (a + b) + 1 by omega]
    show mrun st (a + b) (k + 1) (mstep st M (k % 36)) = _
    rw [mrun_add st a b, show k + 1 + a = k + (a + 1) by omega]
    rfl
theorem mrun_cnt {st : St} (hs : Inv st) {p0 : Nat} (hp : p0 < 36) : ∀ j, closed st (mrun st (36 * j) 0 (2 ^ p0)) ∨ j + 1 ≤ cntn (mrun st (36 * j) 0 (2 ^ p0)) 36
  | 0 => Or.inr (by
      show 1 ≤ cntn (2 ^ p0) 36
      exact cntn_pos (q := p0) (by simp) 36 hp)
  | j + 1 => by
    have ih := mrun_cnt hs hp j
    have e : mrun st (36 * (j + 1)) 0 (2 ^ p0) = mrun st 36 0 (mrun st (36 * j) 0 (2 ^ p0)) := by
      rw [show 36 * (j + 1) = 36 * j + 36 by omega, mrun_add, Nat.zero_add]
      have per : ∀ i M, mrun st 36 (36 * i) M = mrun st 36 0 M := by
        intro i M
        induction i with
        | zero => rfl
        | succ i hi => rw [show 36 * (i + 1) = 36 * i + 36 by omega, mrun_per, hi]
      exact per j _
    rw [e]
    have hlt := mrun_lt hs (36 * j) 0 (2 ^ p0) (pow_lt36 hp)
    generalize mrun st (36 * j) 0 (2 ^ p0) = M at ih hlt ⊢
    have hlt2 := mrun_lt hs 36 0 M hlt
    obtain ⟨c1, c2⟩ := cntn_sub (mrun_up st 36 0 M) 36
    by_cases c : cntn (mrun st 36 0 M) 36 ≤ cntn M 36
    · have hb : mrun st 36 0 M = M := bsub.eq (fun q hq => c2 c q (bit_lt hlt2 hq) hq) (mrun_up st 36 0 M)
      refine Or.inl (fun p hp' hbit => ?_)
      rw [hb] at hbit ⊢
      have := mrun_in (st := st) hp' 36 0 M (by omega) (by omega) hbit
      rw [hb] at this
      exact this
    · rcases ih with ih | ih
      · exfalso
        apply c
        have hb : bsub (mrun st 36 0 M) M := mrun_least ih 36 0 M (bsub.rf M)
        exact (cntn_sub hb 36).1
      · exact Or.inr (by omega)
theorem mrun_clo {st : St} (hs : Inv st) {p0 : Nat} (hp : p0 < 36) : clo st p0 (mrun st 1296 0 (2 ^ p0)) := by
  refine ⟨mrun_lt hs _ _ _ (pow_lt36 hp), mrun_up st _ _ _ p0 (by simp), ?_, fun N h1 h2 => mrun_least h2 _ _ _ (fun q hq => ?_)⟩
  · rcases mrun_cnt hs hp 36 with h | h
    · exact h
    · have := cntn_le (mrun st (36 * 36) 0 (2 ^ p0)) 36
      omega
  · rw [Nat.testBit_two_pow] at hq
    have : p0 = q := by simpa using hq
    rw [← this]; exact h1
/-! the class: the pairs that wait, one by one -/
def xinv (st : St) (p0 n m w : Nat) : Prop := m < 2 ^ 36 ∧ m.testBit p0 = true ∧ bsub w m ∧ (∀ p, p < 36 → m.testBit p = true → w.testBit p = false → bsub (nxt st p) m) ∧ (∀ N, N.testBit p0 = true → closed st N → bsub m N) ∧ cntn m 36 = cntn w 36 + n
theorem xinv_0 (st : St) {p0 : Nat} (hp : p0 < 36) : xinv st p0 0 (2 ^ p0) (2 ^ p0) := by
  refine ⟨pow_lt36 hp, by simp, bsub.rf _, fun p _ h1 h2 => (by rw [h1] at h2; cases h2), fun N h1 _ q hq => ?_, rfl⟩
  rw [Nat.testBit_two_pow] at hq
  have : p0 = q := by simpa using hq
  rw [← this]; exact h1
theorem xinv_step {st : St} (hs : Inv st) {p0 n m w p m' w' fr : Nat} (h : xinv st p0 n m w) (hp : w.testBit p = true) (hf : ∀ q, fr.testBit q = ((nxt st p).testBit q && !(m.testBit q))) (hm : m' = m ||| fr) (hw : ∀ q, w'.testBit q = ((w.testBit q && decide (q ≠ p)) || fr.testBit q)) : xinv st p0 (n + 1) m' w' := by
  obtain ⟨h1, h2, h3, h4, h5, h6⟩ := h
  subst hm
  have hp36 : p < 36 := bit_lt h1 (h3 p hp)
  have hfn : bsub fr (nxt st p) := fun q hq => by
    rw [hf, Bool.and_eq_true] at hq; exact hq.1
  have hfr : fr < 2 ^ 36 := by
    apply Nat.lt_of_not_le
    intro c
    have hc : ¬ fr < 2 ^ 36 := by omega
    apply hc
    apply Nat.lt_pow_two_of_testBit
    intro i hi
    cases e : fr.testBit i with
    | false => rfl
    | true => exact absurd (bit_lt (nxt_lt hs hp36) (hfn i e)) (by omega)
  have hdis : ∀ q, m.testBit q = true → fr.testBit q = false := fun q hq => by rw [hf, hq]; simp
  refine ⟨Nat.or_lt_two_pow h1 hfr, bsub.orl _ _ _ h2, fun q hq => ?_, fun x hx hx1 hx2 => ?_, fun N hN1 hN2 => ?_, ?_⟩
  · rw [hw, Bool.or_eq_true] at hq
    rcases hq with hq | hq
    · exact bsub.orl _ _ _ (h3 q (by rw [Bool.and_eq_true] at hq; exact hq.1))
    · exact bsub.orr _ _ _ hq
  · rw [hw, Bool.or_eq_false_iff] at hx2
    rw [Nat.testBit_or, hx2.2, Bool.or_false] at hx1
    by_cases e : x = p
    · subst e
      intro q hq
      rw [Nat.testBit_or]
      cases e2 : m.testBit q with
      | true => rfl
      | false => rw [hf, hq, e2]; rfl
    · have hwx : w.testBit x = false := by
        have := hx2.1
        rw [Bool.and_eq_false_iff] at this
        rcases this with z | z
        · exact z
        · simp [e] at z
      exact (h4 x hx hx1 hwx).tr (bsub.orl _ _)
  · have hb := h5 N hN1 hN2
    exact hb.or (hfn.tr (hN2 p hp36 (hb p (h3 p hp))))
  · have e1 : cntn (m ||| fr) 36 = cntn m 36 + cntn fr 36 := cntn_or hdis 36
    -- w is p and the rest
    have key : ∀ k, cntn w' k + (if p < k then 1 else 0) = cntn w k + cntn fr k := by
      intro k
      induction k with
      | zero => rfl
      | succ k ih =>
        show cntn w' k + (if w'.testBit k = true then 1 else 0) + (if p < k + 1 then 1 else 0) = cntn w k + (if w.testBit k = true then 1 else 0) + (cntn fr k + (if fr.testBit k = true then 1 else 0))
        have hwf : w.testBit k = true → fr.testBit k = false := fun z => hdis k (h3 k z)
        by_cases e : k = p
        · subst e
          have hff := hwf hp
          rw [hw, hff, hp]
          simp at ih ⊢
          omega
        · rw [hw]
          have hlt : (p < k + 1) ↔ (p < k) := by omega
          have hde : decide (k ≠ p) = true := by simp [e]
          rw [hde, Bool.and_true]
          cases c1 : w.testBit k with
          | true =>
            rw [hwf c1]
            simp only [Bool.or_false, if_true, hlt]
            simp
            omega
          | false =>
            cases c2 : fr.testBit k with
            | true => simp only [Bool.or_true, if_true, hlt]; simp; omega
            | false => simp only [Bool.or_false, hlt]; simp; omega
    have k36 := key 36
    rw [if_pos hp36] at k36
    omega
theorem xinv_end {st : St} {p0 n m w : Nat} (h : xinv st p0 n m w) (he : w = 0 ∨ 36 ≤ n) : clo st p0 m := by
  obtain ⟨h1, h2, h3, h4, h5, h6⟩ := h
  have hw0 : ∀ q, w.testBit q = false := by
    intro q
    rcases he with rfl | hn
    · simp
    · cases e : w.testBit q with
      | false => rfl
      | true =>
        have := cntn_pos e 36 (bit_lt h1 (h3 q e))
        have := cntn_le m 36
        omega
  exact ⟨h1, h2, fun p hp hb => h4 p hp hb (hw0 p), h5⟩
end
section
/-! the same but for the old copies -/
def xok (f : Nat) : Bool := f != 13 && f != 14
def xeq (a b : St) : Prop := ∀ f, xok f = true → a f = b f
theorem xeq_mk {a b : St} (h : xeq a b) (p : Nat) {v w : Nat → Int} (e : v = w) : xeq (mk a p v) (mk b p w) := by
  intro f hf
  subst e
  unfold mk
  rw [h 7 rfl, h 8 rfl, h 9 rfl, h 10 rfl, h 11 rfl, h 12 rfl, h 16 rfl, h 17 rfl, h 18 rfl, h 19 rfl, h 20 rfl, h 21 rfl, h 22 rfl, h 23 rfl, h f hf]
def gcx (g : St → Nat → Nat → Int × St) : Prop := ∀ (a b : St) (i k : Nat), xeq a b → (g a i k).1 = (g b i k).1 ∧ xeq (g a i k).2 (g b i k).2
theorem rneeds_cx {g : St → Nat → Nat → Int × St} (hg : gcx g) (p : Nat) : ∀ (n j : Nat) (a b : St) (vs : Nat → Int), xeq a b → (rneeds g p n j a vs).1 = (rneeds g p n j b vs).1 ∧ xeq (rneeds g p n j a vs).2.1 (rneeds g p n j b vs).2.1 ∧ (rneeds g p n j a vs).2.2 = (rneeds g p n j b vs).2.2
  | 0, _, a, b, vs, h => ⟨rfl, h, rfl⟩
  | n + 1, j, a, b, vs, h => by
    unfold rneeds
    rw [h 10 rfl, h 9 rfl]
    have hh := hg a b (p / 12) (b 9 (4 * p + j)).toNat h
    by_cases c : b 10 (4 * p + j) = 1
    · rw [if_pos c, if_pos c]
      exact rneeds_cx hg p n (j + 1) a b _ h
    · rw [if_neg c, if_neg c, hh.1]
      by_cases c2 : (g b (p / 12) (b 9 (4 * p + j)).toNat).1 < 0
      · rw [if_pos c2, if_pos c2]
        exact ⟨rfl, hh.2, rfl⟩
      · rw [if_neg c2, if_neg c2]
        exact rneeds_cx hg p n (j + 1) _ _ _ hh.2
theorem rgo_cx {g : St → Nat → Nat → Int × St} (hg : gcx g) {a b : St} (h : xeq a b) (p : Nat) : (rgo g a p).1 = (rgo g b p).1 ∧ xeq (rgo g a p).2 (rgo g b p).2 := by
  unfold rgo
  rw [h 5 rfl, h 6 rfl, h 7 rfl, h 8 rfl, h 15 rfl]
  by_cases c : b 5 p = 2
  · rw [if_pos c, if_pos c]
    exact hg a b _ _ h
  · rw [if_neg c, if_neg c]
    by_cases c2 : b 7 p = 2 ∧ b 15 0 = 0
    · rw [if_pos c2, if_pos c2]
      exact ⟨rfl, h⟩
    · rw [if_neg c2, if_neg c2]
      obtain ⟨e1, e2, e3⟩ := rneeds_cx hg p (b 8 p).toNat 0 a b (fun _ => 0) h
      unfold rend
      rw [e1, e2 23 rfl]
      by_cases c3 : (rneeds g p (b 8 p).toNat 0 b (fun _ => 0)).1 < 0
      · rw [if_pos c3, if_pos c3]
        exact ⟨rfl, e2⟩
      · rw [if_neg c3, if_neg c3]
        by_cases c4 : (rneeds g p (b 8 p).toNat 0 b (fun _ => 0)).2.1 23 0 = 100
        · rw [if_pos c4, if_pos c4]
          exact ⟨rfl, e2⟩
        · rw [if_neg c4, if_neg c4]
          exact ⟨rfl, xeq_mk e2 p e3⟩
theorem rget_cx : ∀ (d : Nat) (wk : Nat → Bool), gcx (rget d wk)
  | 0, _ => fun a b i k h => ⟨rfl, h⟩
  | d + 1, wk => by
    intro a b i k h
    unfold rget
    rw [sn_congr (h 0 rfl) (h 5 rfl) i k, h 5 rfl, h 6 rfl, show kpt a = kpt b from by funext p; unfold kpt; rw [h 11 rfl, h 12 rfl]]
    by_cases c : sn b i k < 0
    · rw [if_pos c, if_pos c]; exact ⟨rfl, h⟩
    · rw [if_neg c, if_neg c]
      by_cases c1 : b 5 (sn b i k).toNat = 1
      · rw [if_pos c1, if_pos c1]; exact ⟨rfl, h⟩
      · rw [if_neg c1, if_neg c1]
        by_cases c2 : kpt b (sn b i k).toNat ≠ 0
        · rw [if_pos c2, if_pos c2]; exact ⟨rfl, h⟩
        · rw [if_neg c2, if_neg c2]
          by_cases c3 : wk (sn b i k).toNat = true ∨ d = 0
          · rw [if_pos c3, if_pos c3]; exact ⟨rfl, h⟩
          · rw [if_neg c3, if_neg c3]
            exact rgo_cx (rget_cx d _) h _
end
section
/-! THE REFERENCE'S WORLD: its object at m0, its arrays at ad f; the state s is what they hold -/
abbrev ztys (cI cZ cJ cB : ClassId) : List (ClassId × FieldType) := [(cI, .int), (cZ, .boolean), (cJ, .long), (cB, .object "InjectorTree$Binding")]
def mfs (ad : Nat → Nat) (s : St) : List Value := [.ref (ad 0), iv (s 1 0), .ref (ad 2), .ref (ad 3), iv (s 4 0), .ref (ad 5), .ref (ad 6), .ref (ad 7), .ref (ad 8), .ref (ad 9), .ref (ad 10), .ref (ad 11), .ref (ad 12), .ref (ad 13), .ref (ad 14), iv (s 15 0), .ref (ad 16), .ref (ad 17), .ref (ad 18), .ref (ad 19), .ref (ad 20), .ref (ad 21), .ref (ad 22), iv (s 23 0), .ref (ad 24), .ref (ad 25), .ref (ad 26), iv (s 27 0)]
def marr (f : Nat) : Bool := !(f == 1 || f == 4 || f == 15 || f == 23 || f == 27) && decide (f < 28)
def mlen (f : Nat) : Nat := if f = 0 then 3 else if f = 2 ∨ f = 3 then 4 else if f = 9 ∨ f = 10 ∨ f = 26 then 144 else if f = 16 ∨ f = 17 ∨ f = 18 ∨ f = 19 then 100 else if f = 20 ∨ f = 21 ∨ f = 22 then 400 else 36
def mcell (cI cZ cJ : ClassId) (f : Nat) (s : St) : va_E := if f = 22 ∨ f = 26 then la cJ (mlen f) (s f) else if f = 3 ∨ f = 10 ∨ f = 21 then ia cZ (mlen f) (s f) else ia cI (mlen f) (s f)
def RM (cI cZ cJ : ClassId) (m0 : Nat) (ad : Nat → Nat) (s : St) (σ : zh) : Prop := σ m0 = some (ob 3 (mfs ad s)) ∧ (∀ f, marr f = true → σ (ad f) = some (mcell cI cZ cJ f s)) ∧ ∀ f g, marr f = true → marr g = true → ad f = ad g → f = g
def MA (m0 : Nat) (ad : Nat → Nat) (a : Nat) : Prop := a = m0 ∨ ∃ f, marr f = true ∧ a = ad f
/-- the reference's world, and beside it all as it was in σ0 -/
def mR (cI cZ cJ : ClassId) (m0 : Nat) (ad : Nat → Nat) (σ0 : zh) (s : St) (σ : zh) : Prop := RM cI cZ cJ m0 ad s σ ∧ ∀ a, ¬ MA m0 ad a → σ a = σ0 a
theorem mR.rf {cI cZ cJ : ClassId} {m0 : Nat} {ad : Nat → Nat} {s : St} {σ : zh} (h : RM cI cZ cJ m0 ad s σ) : mR cI cZ cJ m0 ad σ s σ := ⟨h, fun _ _ => rfl⟩
theorem mR.tr {cI cZ cJ : ClassId} {m0 : Nat} {ad : Nat → Nat} {s s' : St} {σ0 σ σ' : zh} (h : mR cI cZ cJ m0 ad σ0 s σ) (k : mR cI cZ cJ m0 ad σ s' σ') : mR cI cZ cJ m0 ad σ0 s' σ' := ⟨k.1, fun a ha => (k.2 a ha).trans (h.2 a ha)⟩
theorem mcell_arr (cI cZ cJ : ClassId) (f : Nat) (s : St) : ∃ x, mcell cI cZ cJ f s = .inl x := by
  unfold mcell
  split
  · exact ⟨_, rfl⟩
  · split <;> exact ⟨_, rfl⟩
theorem mcell_n (cI cZ cJ : ClassId) {f g : Nat} (s : St) (k : Nat) (v : Int) (h : g ≠ f) : mcell cI cZ cJ g (sup s f k v) = mcell cI cZ cJ g s := by
  unfold mcell
  rw [sup_n h]
theorem RM.ne {cI cZ cJ : ClassId} {m0 : Nat} {ad : Nat → Nat} {s : St} {σ : zh} (h : RM cI cZ cJ m0 ad s σ) {f : Nat} (hf : marr f = true) : m0 ≠ ad f := by
  intro e
  have h2 := h.2.1 f hf
  obtain ⟨x, hx⟩ := mcell_arr cI cZ cJ f s
  rw [← e, h.1, hx] at h2
  cases h2
theorem mR.iput {cI cZ cJ : ClassId} {m0 : Nat} {ad : Nat → Nat} {s : St} {σ0 σ : zh} (h : mR cI cZ cJ m0 ad σ0 s σ) {f : Nat} (hf : marr f = true) (k : Nat) (v : Int) : mR cI cZ cJ m0 ad σ0 (sup s f k v) (zput σ (ad f) (mcell cI cZ cJ f (sup s f k v))) := by
  obtain ⟨⟨h1, h2, h3⟩, h4⟩ := h
  refine ⟨⟨?_, fun g hg => ?_, h3⟩, fun a ha => ?_⟩
  · rw [zput_n (RM.ne ⟨h1, h2, h3⟩ hf), h1]
    have e : ∀ c : Nat, marr c = false → sup s f k v c = s c := fun c hc => sup_n (by rintro rfl; rw [hf] at hc; cases hc)
    unfold mfs
    rw [e 1 rfl, e 4 rfl, e 15 rfl, e 23 rfl, e 27 rfl]
  · by_cases e : g = f
    · subst e; rw [zput_s]
    · rw [zput_n (fun z => e (h3 g f hg hf z)), h2 g hg, mcell_n _ _ _ _ _ _ e]
  · rw [zput_n (fun z => ha (Or.inr ⟨f, hf, z⟩))]
    exact h4 a ha
theorem mR.sput {cI cZ cJ : ClassId} {m0 : Nat} {ad : Nat → Nat} {s : St} {σ0 σ : zh} (h : mR cI cZ cJ m0 ad σ0 s σ) {f : Nat} (hf : marr f = false) (v : Int) : mR cI cZ cJ m0 ad σ0 (sup s f 0 v) (zput σ m0 (ob 3 (mfs ad (sup s f 0 v)))) := by
  obtain ⟨⟨h1, h2, h3⟩, h4⟩ := h
  refine ⟨⟨zput_s _ _ _, fun g hg => ?_, h3⟩, fun a ha => ?_⟩
  · rw [zput_n (fun z => RM.ne ⟨h1, h2, h3⟩ hg z.symm), h2 g hg, mcell_n _ _ _ _ _ _ (by rintro rfl; rw [hg] at hf; cases hf)]
  · rw [zput_n (fun z => ha (Or.inl z))]
    exact h4 a ha
section MR
variable {K : zC} {D : va_G} {A : Nat → Prop} {cI cZ cJ cB : ClassId} {F : State → Prop} {rm : Room} {cc : ByteArray} {own nm : String} {Ts : List Cond} {nL : Nat} {ret : Option FieldType} {Q : State → Prop} {cells slots pc : Nat} {σ0 σ : zh} {lv : List (Option Value)} {st : List Value} {m0 : Nat} {ad : Nat → Nat} {s : St}
theorem m_get (C : zCx K D vwCl A (ztys cI cZ cJ cB) F rm cc own nm Ts nL ret) (hM : mR cI cZ cJ m0 ad σ0 s σ) (hin : ∀ w ∈ u_ws "InjectorTreeModel" T_M 28, w ∈ Ts) {index : Nat} {v : Value} (f : Nat) (hf : f < 28) (hl : Cond.fieldLink own index "InjectorTreeModel" (T_M f).2.1 (T_M f).2.2.1 ∈ Ts) (hr : (T_M f).1 = "InjectorTreeModel") (hv : (mfs ad s)[f]? = some v) (hd : decode cc pc = .ok (.getfield index, 3)) (kk : zJ K D vwCl A nL Q cells slots (σ) (pc + 3) lv (v :: st)) : zJ K D vwCl A nL Q cells slots (σ) (pc) lv (.ref m0 :: st) :=
  z_get C hin hM.1.1 rfl f hf hl hr hv hd kk
theorem m_put (C : zCx K D vwCl A (ztys cI cZ cJ cB) F rm cc own nm Ts nL ret) (hM : mR cI cZ cJ m0 ad σ0 s σ) (hin : ∀ w ∈ u_ws "InjectorTreeModel" T_M 28, w ∈ Ts) {index : Nat} {v : Int} {ty : FieldType} (f : Nat) (hf : f < 28) (ha : marr f = false) (hl : Cond.fieldLink own index "InjectorTreeModel" (T_M f).2.1 (T_M f).2.2.1 ∈ Ts) (hr : (T_M f).1 = "InjectorTreeModel") (hfin : (T_M f).2.2.2 = false) (hd9 : parseFieldDescriptor (T_M f).2.2.1 = some ty) (hnn : narrow ty (iv v) = iv v) (hfit : fits ty (iv v) = true) (hset : (mfs ad s).set f (iv v) = mfs ad (sup s f 0 v)) (hd : decode cc pc = .ok (.putfield index, 3)) (kk : ∀ σ' : zh, mR cI cZ cJ m0 ad σ0 (sup s f 0 v) σ' → zJ K D vwCl A nL Q cells slots (σ') (pc + 3) lv (st)) : zJ K D vwCl A nL Q cells slots (σ) (pc) lv (iv v :: .ref m0 :: st) := by
  refine z_put C hin t_M tk_M nm_M hM.1.1 rfl f hf hl hr hfin hd9 hnn hfit hf hd ?_
  rw [hset]
  exact kk _ (hM.sput ha v)
theorem m_iald (C : zCx K D vwCl A (ztys cI cZ cJ cB) F rm cc own nm Ts nL ret) (hM : mR cI cZ cJ m0 ad σ0 s σ) {i : Int} {n : Nat} (f : Nat) (hf : marr f = true) (hc : ∀ s : St, mcell cI cZ cJ f s = ia cI n (s f)) (k : Nat) (hk : i = (k : Int)) (hn : k < n) (hm : n ≤ 2147483647) (hd : decode cc pc = .ok (.iaload, 1)) (kk : zJ K D vwCl A nL Q cells slots (σ) (pc + 1) lv (iv (s f k) :: st)) : zJ K D vwCl A nL Q cells slots (σ) (pc) lv (iv i :: .ref (ad f) :: st) :=
  z_iald C 0 rfl (by rw [hM.1.2.1 f hf, hc]) k hk hn hm hd kk
theorem m_iast (C : zCx K D vwCl A (ztys cI cZ cJ cB) F rm cc own nm Ts nL ret) (hM : mR cI cZ cJ m0 ad σ0 s σ) {i v : Int} {n : Nat} (f : Nat) (hf : marr f = true) (hc : ∀ s : St, mcell cI cZ cJ f s = ia cI n (s f)) (k : Nat) (hk : i = (k : Int)) (hn : k < n) (hm : n ≤ 2147483647) (hd : decode cc pc = .ok (.iastore, 1)) (kk : ∀ σ' : zh, mR cI cZ cJ m0 ad σ0 (sup s f k v) σ' → zJ K D vwCl A nL Q cells slots (σ') (pc + 1) lv (st)) : zJ K D vwCl A nL Q cells slots (σ) (pc) lv (iv v :: iv i :: .ref (ad f) :: st) := by
  refine z_iast C 0 rfl (by rw [hM.1.2.1 f hf, hc]) k hk hn hm hd ?_
  have e := hc (sup s f k v)
  rw [sup_s] at e
  rw [← e]
  exact kk _ (hM.iput hf k v)
theorem m_zald (C : zCx K D vwCl A (ztys cI cZ cJ cB) F rm cc own nm Ts nL ret) (hM : mR cI cZ cJ m0 ad σ0 s σ) {i : Int} {n : Nat} (f : Nat) (hf : marr f = true) (hc : ∀ s : St, mcell cI cZ cJ f s = ia cZ n (s f)) (k : Nat) (hk : i = (k : Int)) (hn : k < n) (hm : n ≤ 2147483647) (hd : decode cc pc = .ok (.baload, 1)) (kk : zJ K D vwCl A nL Q cells slots (σ) (pc + 1) lv (iv (s f k) :: st)) : zJ K D vwCl A nL Q cells slots (σ) (pc) lv (iv i :: .ref (ad f) :: st) :=
  z_zald C 1 rfl (by rw [hM.1.2.1 f hf, hc]) k hk hn hm hd kk
theorem m_zast (C : zCx K D vwCl A (ztys cI cZ cJ cB) F rm cc own nm Ts nL ret) (hM : mR cI cZ cJ m0 ad σ0 s σ) {i v : Int} {n : Nat} (f : Nat) (hf : marr f = true) (hc : ∀ s : St, mcell cI cZ cJ f s = ia cZ n (s f)) (k : Nat) (hk : i = (k : Int)) (hn : k < n) (hm : n ≤ 2147483647) (hv : v = 0 ∨ v = 1) (hd : decode cc pc = .ok (.bastore, 1)) (kk : ∀ σ' : zh, mR cI cZ cJ m0 ad σ0 (sup s f k v) σ' → zJ K D vwCl A nL Q cells slots (σ') (pc + 1) lv (st)) : zJ K D vwCl A nL Q cells slots (σ) (pc) lv (iv v :: iv i :: .ref (ad f) :: st) := by
  refine z_zast C 1 rfl (by rw [hM.1.2.1 f hf, hc]) k hk hn hm hv hd ?_
  have e := hc (sup s f k v)
  rw [sup_s] at e
  rw [← e]
  exact kk _ (hM.iput hf k v)
theorem m_lald (C : zCx K D vwCl A (ztys cI cZ cJ cB) F rm cc own nm Ts nL ret) (hM : mR cI cZ cJ m0 ad σ0 s σ) {i : Int} {n : Nat} (f : Nat) (hf : marr f = true) (hc : ∀ s : St, mcell cI cZ cJ f s = la cJ n (s f)) (k : Nat) (hk : i = (k : Int)) (hn : k < n) (hm : n ≤ 2147483647) (hd : decode cc pc = .ok (.laload, 1)) (kk : zJ K D vwCl A nL Q cells slots (σ) (pc + 1) lv (jv (s f k) :: st)) : zJ K D vwCl A nL Q cells slots (σ) (pc) lv (iv i :: .ref (ad f) :: st) :=
  z_lald C 2 rfl (by rw [hM.1.2.1 f hf, hc]) k hk hn hm hd kk
theorem m_last (C : zCx K D vwCl A (ztys cI cZ cJ cB) F rm cc own nm Ts nL ret) (hM : mR cI cZ cJ m0 ad σ0 s σ) {i v : Int} {n : Nat} (f : Nat) (hf : marr f = true) (hc : ∀ s : St, mcell cI cZ cJ f s = la cJ n (s f)) (k : Nat) (hk : i = (k : Int)) (hn : k < n) (hm : n ≤ 2147483647) (hd : decode cc pc = .ok (.lastore, 1)) (kk : ∀ σ' : zh, mR cI cZ cJ m0 ad σ0 (sup s f k v) σ' → zJ K D vwCl A nL Q cells slots (σ') (pc + 1) lv (st)) : zJ K D vwCl A nL Q cells slots (σ) (pc) lv (jv v :: iv i :: .ref (ad f) :: st) := by
  refine z_last C 2 rfl (by rw [hM.1.2.1 f hf, hc]) k hk hn hm hd ?_
  have e := hc (sup s f k v)
  rw [sup_s] at e
  rw [← e]
  exact kk _ (hM.iput hf k v)
end MR

/-- a room, by how deep the calls go -/
def zroom (k c n : Nat) : Room := { frames := k + 1, cells := c, slots := n, locals := 40 * (k + 1) }
theorem zMet2 {l : Launch} {D : va_G} {cl : List vw_C} {A : Nat → Prop} {tys : List (ClassId × FieldType)} {F : State → Prop} {rm : Room} {cc : ByteArray} {nL : Nat} {ret : Option FieldType} {σ : zh} {y : MethodName} {vals : List Value} {post : Option Value → zh → Prop} (hF : zFok F A) (hy : plainName y.cls = true) (hn : (zents vals).length ≤ nL)
    (body : ∀ K : zC, K.2.1 = l → zCx K D cl A tys F rm cc y.cls y.name zw nL ret → zJ K D cl A nL (zQ K D cl A post rm.cells rm.slots) 0 0 σ 0 (zent vals nL) []) : zM l D cl A tys F y (Cond.code y cc nL ret :: zw) rm vals σ post := by
  refine zMet hF hy rfl hn (fun K hK C => body K hK ?_)
  obtain ⟨p, l', e, R, s, m, args, below, meth, c⟩ := K
  exact ⟨C.1, C.2.1, C.2.2.1, C.2.2.2.1, fun w hw => C.2.2.2.2.1 w (List.mem_cons_of_mem _ hw), C.2.2.2.2.2⟩
theorem pd_X_init : y_X_init.cls ≠ "java/lang/invoke/MethodHandle" ∧ y_X_init.cls ≠ "java/lang/invoke/VarHandle" ∧ (parseMethodDescriptor y_X_init.desc).map (fun d => d.parameters.length) = some 0 := by decide +kernel
theorem pd_N_init : y_N_init.cls ≠ "java/lang/invoke/MethodHandle" ∧ y_N_init.cls ≠ "java/lang/invoke/VarHandle" ∧ (parseMethodDescriptor y_N_init.desc).map (fun d => d.parameters.length) = some 0 := by decide +kernel
theorem pd_X_child : y_X_child.cls ≠ "java/lang/invoke/MethodHandle" ∧ y_X_child.cls ≠ "java/lang/invoke/VarHandle" ∧ (parseMethodDescriptor y_X_child.desc).map (fun d => d.parameters.length) = some 1 := by decide +kernel
theorem pd_X_isInjector : y_X_isInjector.cls ≠ "java/lang/invoke/MethodHandle" ∧ y_X_isInjector.cls ≠ "java/lang/invoke/VarHandle" ∧ (parseMethodDescriptor y_X_isInjector.desc).map (fun d => d.parameters.length) = some 1 := by decide +kernel
theorem pd_X_need : y_X_need.cls ≠ "java/lang/invoke/MethodHandle" ∧ y_X_need.cls ≠ "java/lang/invoke/VarHandle" ∧ (parseMethodDescriptor y_X_need.desc).map (fun d => d.parameters.length) = some 2 := by decide +kernel
theorem pd_X_isKey : y_X_isKey.cls ≠ "java/lang/invoke/MethodHandle" ∧ y_X_isKey.cls ≠ "java/lang/invoke/VarHandle" ∧ (parseMethodDescriptor y_X_isKey.desc).map (fun d => d.parameters.length) = some 1 := by decide +kernel
theorem pd_N_append : y_N_append.cls ≠ "java/lang/invoke/MethodHandle" ∧ y_N_append.cls ≠ "java/lang/invoke/VarHandle" ∧ (parseMethodDescriptor y_N_append.desc).map (fun d => d.parameters.length) = some 2 := by decide +kernel
theorem pd_X_drop : y_X_drop.cls ≠ "java/lang/invoke/MethodHandle" ∧ y_X_drop.cls ≠ "java/lang/invoke/VarHandle" ∧ (parseMethodDescriptor y_X_drop.desc).map (fun d => d.parameters.length) = some 0 := by decide +kernel
theorem pd_X_bindConstant : y_X_bindConstant.cls ≠ "java/lang/invoke/MethodHandle" ∧ y_X_bindConstant.cls ≠ "java/lang/invoke/VarHandle" ∧ (parseMethodDescriptor y_X_bindConstant.desc).map (fun d => d.parameters.length) = some 3 := by decide +kernel
theorem pd_X_isUnbound : y_X_isUnbound.cls ≠ "java/lang/invoke/MethodHandle" ∧ y_X_isUnbound.cls ≠ "java/lang/invoke/VarHandle" ∧ (parseMethodDescriptor y_X_isUnbound.desc).map (fun d => d.parameters.length) = some 2 := by decide +kernel
theorem pd_X_isPair : y_X_isPair.cls ≠ "java/lang/invoke/MethodHandle" ∧ y_X_isPair.cls ≠ "java/lang/invoke/VarHandle" ∧ (parseMethodDescriptor y_X_isPair.desc).map (fun d => d.parameters.length) = some 2 := by decide +kernel
theorem pd_X_pairOf : y_X_pairOf.cls ≠ "java/lang/invoke/MethodHandle" ∧ y_X_pairOf.cls ≠ "java/lang/invoke/VarHandle" ∧ (parseMethodDescriptor y_X_pairOf.desc).map (fun d => d.parameters.length) = some 2 := by decide +kernel
theorem pd_B_init : y_B_init.cls ≠ "java/lang/invoke/MethodHandle" ∧ y_B_init.cls ≠ "java/lang/invoke/VarHandle" ∧ (parseMethodDescriptor y_B_init.desc).map (fun d => d.parameters.length) = some 6 := by decide +kernel
theorem pd_X_bindLink : y_X_bindLink.cls ≠ "java/lang/invoke/MethodHandle" ∧ y_X_bindLink.cls ≠ "java/lang/invoke/VarHandle" ∧ (parseMethodDescriptor y_X_bindLink.desc).map (fun d => d.parameters.length) = some 3 := by decide +kernel
theorem pd_X_bindClass : y_X_bindClass.cls ≠ "java/lang/invoke/MethodHandle" ∧ y_X_bindClass.cls ≠ "java/lang/invoke/VarHandle" ∧ (parseMethodDescriptor y_X_bindClass.desc).map (fun d => d.parameters.length) = some 3 := by decide +kernel
theorem pd_X_unbind : y_X_unbind.cls ≠ "java/lang/invoke/MethodHandle" ∧ y_X_unbind.cls ≠ "java/lang/invoke/VarHandle" ∧ (parseMethodDescriptor y_X_unbind.desc).map (fun d => d.parameters.length) = some 2 := by decide +kernel
theorem pd_X_open : y_X_open.cls ≠ "java/lang/invoke/MethodHandle" ∧ y_X_open.cls ≠ "java/lang/invoke/VarHandle" ∧ (parseMethodDescriptor y_X_open.desc).map (fun d => d.parameters.length) = some 0 := by decide +kernel
theorem pd_X_close : y_X_close.cls ≠ "java/lang/invoke/MethodHandle" ∧ y_X_close.cls ≠ "java/lang/invoke/VarHandle" ∧ (parseMethodDescriptor y_X_close.desc).map (fun d => d.parameters.length) = some 0 := by decide +kernel
theorem pd_X_countKept : y_X_countKept.cls ≠ "java/lang/invoke/MethodHandle" ∧ y_X_countKept.cls ≠ "java/lang/invoke/VarHandle" ∧ (parseMethodDescriptor y_X_countKept.desc).map (fun d => d.parameters.length) = some 1 := by decide +kernel
theorem pd_X_get : y_X_get.cls ≠ "java/lang/invoke/MethodHandle" ∧ y_X_get.cls ≠ "java/lang/invoke/VarHandle" ∧ (parseMethodDescriptor y_X_get.desc).map (fun d => d.parameters.length) = some 2 := by decide +kernel
theorem pd_X_obtainFromOutside : y_X_obtainFromOutside.cls ≠ "java/lang/invoke/MethodHandle" ∧ y_X_obtainFromOutside.cls ≠ "java/lang/invoke/VarHandle" ∧ (parseMethodDescriptor y_X_obtainFromOutside.desc).map (fun d => d.parameters.length) = some 2 := by decide +kernel
theorem pd_X_obtain : y_X_obtain.cls ≠ "java/lang/invoke/MethodHandle" ∧ y_X_obtain.cls ≠ "java/lang/invoke/VarHandle" ∧ (parseMethodDescriptor y_X_obtain.desc).map (fun d => d.parameters.length) = some 3 := by decide +kernel
theorem pd_X_seenFrom : y_X_seenFrom.cls ≠ "java/lang/invoke/MethodHandle" ∧ y_X_seenFrom.cls ≠ "java/lang/invoke/VarHandle" ∧ (parseMethodDescriptor y_X_seenFrom.desc).map (fun d => d.parameters.length) = some 2 := by decide +kernel
theorem pd_X_obtainNew : y_X_obtainNew.cls ≠ "java/lang/invoke/MethodHandle" ∧ y_X_obtainNew.cls ≠ "java/lang/invoke/VarHandle" ∧ (parseMethodDescriptor y_X_obtainNew.desc).map (fun d => d.parameters.length) = some 2 := by decide +kernel
theorem pd_X_handleOf : y_X_handleOf.cls ≠ "java/lang/invoke/MethodHandle" ∧ y_X_handleOf.cls ≠ "java/lang/invoke/VarHandle" ∧ (parseMethodDescriptor y_X_handleOf.desc).map (fun d => d.parameters.length) = some 2 := by decide +kernel
theorem pd_X_isError : y_X_isError.cls ≠ "java/lang/invoke/MethodHandle" ∧ y_X_isError.cls ≠ "java/lang/invoke/VarHandle" ∧ (parseMethodDescriptor y_X_isError.desc).map (fun d => d.parameters.length) = some 1 := by decide +kernel
theorem pd_X_makeInstance : y_X_makeInstance.cls ≠ "java/lang/invoke/MethodHandle" ∧ y_X_makeInstance.cls ≠ "java/lang/invoke/VarHandle" ∧ (parseMethodDescriptor y_X_makeInstance.desc).map (fun d => d.parameters.length) = some 2 := by decide +kernel
theorem pd_X_unmakeFrom : y_X_unmakeFrom.cls ≠ "java/lang/invoke/MethodHandle" ∧ y_X_unmakeFrom.cls ≠ "java/lang/invoke/VarHandle" ∧ (parseMethodDescriptor y_X_unmakeFrom.desc).map (fun d => d.parameters.length) = some 1 := by decide +kernel
theorem pd_X_ask : y_X_ask.cls ≠ "java/lang/invoke/MethodHandle" ∧ y_X_ask.cls ≠ "java/lang/invoke/VarHandle" ∧ (parseMethodDescriptor y_X_ask.desc).map (fun d => d.parameters.length) = some 2 := by decide +kernel
theorem pd_X_makerOf : y_X_makerOf.cls ≠ "java/lang/invoke/MethodHandle" ∧ y_X_makerOf.cls ≠ "java/lang/invoke/VarHandle" ∧ (parseMethodDescriptor y_X_makerOf.desc).map (fun d => d.parameters.length) = some 1 := by decide +kernel
theorem pd_X_hasNeed : y_X_hasNeed.cls ≠ "java/lang/invoke/MethodHandle" ∧ y_X_hasNeed.cls ≠ "java/lang/invoke/VarHandle" ∧ (parseMethodDescriptor y_X_hasNeed.desc).map (fun d => d.parameters.length) = some 2 := by decide +kernel
theorem pd_X_held : y_X_held.cls ≠ "java/lang/invoke/MethodHandle" ∧ y_X_held.cls ≠ "java/lang/invoke/VarHandle" ∧ (parseMethodDescriptor y_X_held.desc).map (fun d => d.parameters.length) = some 2 := by decide +kernel
theorem pd_X_about : y_X_about.cls ≠ "java/lang/invoke/MethodHandle" ∧ y_X_about.cls ≠ "java/lang/invoke/VarHandle" ∧ (parseMethodDescriptor y_X_about.desc).map (fun d => d.parameters.length) = some 2 := by decide +kernel
theorem pd_X_broken : y_X_broken.cls ≠ "java/lang/invoke/MethodHandle" ∧ y_X_broken.cls ≠ "java/lang/invoke/VarHandle" ∧ (parseMethodDescriptor y_X_broken.desc).map (fun d => d.parameters.length) = some 1 := by decide +kernel
theorem pd_X_wouldFail : y_X_wouldFail.cls ≠ "java/lang/invoke/MethodHandle" ∧ y_X_wouldFail.cls ≠ "java/lang/invoke/VarHandle" ∧ (parseMethodDescriptor y_X_wouldFail.desc).map (fun d => d.parameters.length) = some 2 := by decide +kernel
theorem pd_X_reach : y_X_reach.cls ≠ "java/lang/invoke/MethodHandle" ∧ y_X_reach.cls ≠ "java/lang/invoke/VarHandle" ∧ (parseMethodDescriptor y_X_reach.desc).map (fun d => d.parameters.length) = some 2 := by decide +kernel
theorem pd_J_numberOfTrailingZeros : y_J_numberOfTrailingZeros.cls ≠ "java/lang/invoke/MethodHandle" ∧ y_J_numberOfTrailingZeros.cls ≠ "java/lang/invoke/VarHandle" ∧ (parseMethodDescriptor y_J_numberOfTrailingZeros.desc).map (fun d => d.parameters.length) = some 1 := by decide +kernel
theorem pd_I_numberOfTrailingZeros : y_I_numberOfTrailingZeros.cls ≠ "java/lang/invoke/MethodHandle" ∧ y_I_numberOfTrailingZeros.cls ≠ "java/lang/invoke/VarHandle" ∧ (parseMethodDescriptor y_I_numberOfTrailingZeros.desc).map (fun d => d.parameters.length) = some 1 := by decide +kernel
theorem pd_X_nextPairs : y_X_nextPairs.cls ≠ "java/lang/invoke/MethodHandle" ∧ y_X_nextPairs.cls ≠ "java/lang/invoke/VarHandle" ∧ (parseMethodDescriptor y_X_nextPairs.desc).map (fun d => d.parameters.length) = some 2 := by decide +kernel
theorem pd_X_keysOf : y_X_keysOf.cls ≠ "java/lang/invoke/MethodHandle" ∧ y_X_keysOf.cls ≠ "java/lang/invoke/VarHandle" ∧ (parseMethodDescriptor y_X_keysOf.desc).map (fun d => d.parameters.length) = some 1 := by decide +kernel
theorem pd_X_home : y_X_home.cls ≠ "java/lang/invoke/MethodHandle" ∧ y_X_home.cls ≠ "java/lang/invoke/VarHandle" ∧ (parseMethodDescriptor y_X_home.desc).map (fun d => d.parameters.length) = some 2 := by decide +kernel
theorem pd_X_count : y_X_count.cls ≠ "java/lang/invoke/MethodHandle" ∧ y_X_count.cls ≠ "java/lang/invoke/VarHandle" ∧ (parseMethodDescriptor y_X_count.desc).map (fun d => d.parameters.length) = some 1 := by decide +kernel
theorem pd_X_countBindings : y_X_countBindings.cls ≠ "java/lang/invoke/MethodHandle" ∧ y_X_countBindings.cls ≠ "java/lang/invoke/VarHandle" ∧ (parseMethodDescriptor y_X_countBindings.desc).map (fun d => d.parameters.length) = some 0 := by decide +kernel
theorem pd_M_init : y_M_init.cls ≠ "java/lang/invoke/MethodHandle" ∧ y_M_init.cls ≠ "java/lang/invoke/VarHandle" ∧ (parseMethodDescriptor y_M_init.desc).map (fun d => d.parameters.length) = some 0 := by decide +kernel
theorem pd_M_child : y_M_child.cls ≠ "java/lang/invoke/MethodHandle" ∧ y_M_child.cls ≠ "java/lang/invoke/VarHandle" ∧ (parseMethodDescriptor y_M_child.desc).map (fun d => d.parameters.length) = some 1 := by decide +kernel
theorem pd_M_need : y_M_need.cls ≠ "java/lang/invoke/MethodHandle" ∧ y_M_need.cls ≠ "java/lang/invoke/VarHandle" ∧ (parseMethodDescriptor y_M_need.desc).map (fun d => d.parameters.length) = some 2 := by decide +kernel
theorem pd_M_drop : y_M_drop.cls ≠ "java/lang/invoke/MethodHandle" ∧ y_M_drop.cls ≠ "java/lang/invoke/VarHandle" ∧ (parseMethodDescriptor y_M_drop.desc).map (fun d => d.parameters.length) = some 0 := by decide +kernel
theorem pd_M_bindConstant : y_M_bindConstant.cls ≠ "java/lang/invoke/MethodHandle" ∧ y_M_bindConstant.cls ≠ "java/lang/invoke/VarHandle" ∧ (parseMethodDescriptor y_M_bindConstant.desc).map (fun d => d.parameters.length) = some 3 := by decide +kernel
theorem pd_M_bind : y_M_bind.cls ≠ "java/lang/invoke/MethodHandle" ∧ y_M_bind.cls ≠ "java/lang/invoke/VarHandle" ∧ (parseMethodDescriptor y_M_bind.desc).map (fun d => d.parameters.length) = some 4 := by decide +kernel
theorem pd_M_noPair : y_M_noPair.cls ≠ "java/lang/invoke/MethodHandle" ∧ y_M_noPair.cls ≠ "java/lang/invoke/VarHandle" ∧ (parseMethodDescriptor y_M_noPair.desc).map (fun d => d.parameters.length) = some 2 := by decide +kernel
theorem pd_M_bindLink : y_M_bindLink.cls ≠ "java/lang/invoke/MethodHandle" ∧ y_M_bindLink.cls ≠ "java/lang/invoke/VarHandle" ∧ (parseMethodDescriptor y_M_bindLink.desc).map (fun d => d.parameters.length) = some 3 := by decide +kernel
theorem pd_M_bindClass : y_M_bindClass.cls ≠ "java/lang/invoke/MethodHandle" ∧ y_M_bindClass.cls ≠ "java/lang/invoke/VarHandle" ∧ (parseMethodDescriptor y_M_bindClass.desc).map (fun d => d.parameters.length) = some 3 := by decide +kernel
theorem pd_M_unbind : y_M_unbind.cls ≠ "java/lang/invoke/MethodHandle" ∧ y_M_unbind.cls ≠ "java/lang/invoke/VarHandle" ∧ (parseMethodDescriptor y_M_unbind.desc).map (fun d => d.parameters.length) = some 2 := by decide +kernel
theorem pd_M_open : y_M_open.cls ≠ "java/lang/invoke/MethodHandle" ∧ y_M_open.cls ≠ "java/lang/invoke/VarHandle" ∧ (parseMethodDescriptor y_M_open.desc).map (fun d => d.parameters.length) = some 0 := by decide +kernel
theorem pd_M_close : y_M_close.cls ≠ "java/lang/invoke/MethodHandle" ∧ y_M_close.cls ≠ "java/lang/invoke/VarHandle" ∧ (parseMethodDescriptor y_M_close.desc).map (fun d => d.parameters.length) = some 0 := by decide +kernel
theorem pd_M_filled : y_M_filled.cls ≠ "java/lang/invoke/MethodHandle" ∧ y_M_filled.cls ≠ "java/lang/invoke/VarHandle" ∧ (parseMethodDescriptor y_M_filled.desc).map (fun d => d.parameters.length) = some 1 := by decide +kernel
theorem pd_M_get : y_M_get.cls ≠ "java/lang/invoke/MethodHandle" ∧ y_M_get.cls ≠ "java/lang/invoke/VarHandle" ∧ (parseMethodDescriptor y_M_get.desc).map (fun d => d.parameters.length) = some 2 := by decide +kernel
theorem pd_M_keepCopies : y_M_keepCopies.cls ≠ "java/lang/invoke/MethodHandle" ∧ y_M_keepCopies.cls ≠ "java/lang/invoke/VarHandle" ∧ (parseMethodDescriptor y_M_keepCopies.desc).map (fun d => d.parameters.length) = some 0 := by decide +kernel
theorem pd_M_gets : y_M_gets.cls ≠ "java/lang/invoke/MethodHandle" ∧ y_M_gets.cls ≠ "java/lang/invoke/VarHandle" ∧ (parseMethodDescriptor y_M_gets.desc).map (fun d => d.parameters.length) = some 2 := by decide +kernel
theorem pd_M_begin : y_M_begin.cls ≠ "java/lang/invoke/MethodHandle" ∧ y_M_begin.cls ≠ "java/lang/invoke/VarHandle" ∧ (parseMethodDescriptor y_M_begin.desc).map (fun d => d.parameters.length) = some 2 := by decide +kernel
theorem pd_M_seen : y_M_seen.cls ≠ "java/lang/invoke/MethodHandle" ∧ y_M_seen.cls ≠ "java/lang/invoke/VarHandle" ∧ (parseMethodDescriptor y_M_seen.desc).map (fun d => d.parameters.length) = some 2 := by decide +kernel
theorem pd_M_working : y_M_working.cls ≠ "java/lang/invoke/MethodHandle" ∧ y_M_working.cls ≠ "java/lang/invoke/VarHandle" ∧ (parseMethodDescriptor y_M_working.desc).map (fun d => d.parameters.length) = some 1 := by decide +kernel
theorem pd_M_work : y_M_work.cls ≠ "java/lang/invoke/MethodHandle" ∧ y_M_work.cls ≠ "java/lang/invoke/VarHandle" ∧ (parseMethodDescriptor y_M_work.desc).map (fun d => d.parameters.length) = some 0 := by decide +kernel
theorem pd_M_make : y_M_make.cls ≠ "java/lang/invoke/MethodHandle" ∧ y_M_make.cls ≠ "java/lang/invoke/VarHandle" ∧ (parseMethodDescriptor y_M_make.desc).map (fun d => d.parameters.length) = some 2 := by decide +kernel
theorem pd_M_took : y_M_took.cls ≠ "java/lang/invoke/MethodHandle" ∧ y_M_took.cls ≠ "java/lang/invoke/VarHandle" ∧ (parseMethodDescriptor y_M_took.desc).map (fun d => d.parameters.length) = some 2 := by decide +kernel
theorem pd_M_takeBack : y_M_takeBack.cls ≠ "java/lang/invoke/MethodHandle" ∧ y_M_takeBack.cls ≠ "java/lang/invoke/VarHandle" ∧ (parseMethodDescriptor y_M_takeBack.desc).map (fun d => d.parameters.length) = some 1 := by decide +kernel
theorem pd_M_ask : y_M_ask.cls ≠ "java/lang/invoke/MethodHandle" ∧ y_M_ask.cls ≠ "java/lang/invoke/VarHandle" ∧ (parseMethodDescriptor y_M_ask.desc).map (fun d => d.parameters.length) = some 2 := by decide +kernel
theorem pd_M_noNeed : y_M_noNeed.cls ≠ "java/lang/invoke/MethodHandle" ∧ y_M_noNeed.cls ≠ "java/lang/invoke/VarHandle" ∧ (parseMethodDescriptor y_M_noNeed.desc).map (fun d => d.parameters.length) = some 2 := by decide +kernel
theorem pd_M_held : y_M_held.cls ≠ "java/lang/invoke/MethodHandle" ∧ y_M_held.cls ≠ "java/lang/invoke/VarHandle" ∧ (parseMethodDescriptor y_M_held.desc).map (fun d => d.parameters.length) = some 2 := by decide +kernel
theorem pd_M_about : y_M_about.cls ≠ "java/lang/invoke/MethodHandle" ∧ y_M_about.cls ≠ "java/lang/invoke/VarHandle" ∧ (parseMethodDescriptor y_M_about.desc).map (fun d => d.parameters.length) = some 2 := by decide +kernel
theorem pd_M_broken : y_M_broken.cls ≠ "java/lang/invoke/MethodHandle" ∧ y_M_broken.cls ≠ "java/lang/invoke/VarHandle" ∧ (parseMethodDescriptor y_M_broken.desc).map (fun d => d.parameters.length) = some 1 := by decide +kernel
theorem pd_M_reach : y_M_reach.cls ≠ "java/lang/invoke/MethodHandle" ∧ y_M_reach.cls ≠ "java/lang/invoke/VarHandle" ∧ (parseMethodDescriptor y_M_reach.desc).map (fun d => d.parameters.length) = some 2 := by decide +kernel
theorem pd_M_home : y_M_home.cls ≠ "java/lang/invoke/MethodHandle" ∧ y_M_home.cls ≠ "java/lang/invoke/VarHandle" ∧ (parseMethodDescriptor y_M_home.desc).map (fun d => d.parameters.length) = some 2 := by decide +kernel
theorem pd_M_count : y_M_count.cls ≠ "java/lang/invoke/MethodHandle" ∧ y_M_count.cls ≠ "java/lang/invoke/VarHandle" ∧ (parseMethodDescriptor y_M_count.desc).map (fun d => d.parameters.length) = some 1 := by decide +kernel
end
section
/-! THE CALLS, as functions of the state: answer and new state -/
def badp (s : St) (i k : Int) : Prop := i < 0 ∨ s 1 0 ≤ i ∨ k < 0 ∨ 11 < k
def srow (s : St) (f : Nat) (g : Nat → Int) : St := fun h => if h = f then g else s h
theorem srow_s (s : St) (f : Nat) (g : Nat → Int) : srow s f g f = g := by simp [srow]
theorem srow_n {s : St} {f h : Nat} {g : Nat → Int} (e : h ≠ f) : srow s f g h = s h := by simp [srow, e]
theorem sup_srow (s : St) (f i : Nat) (v : Int) : sup s f i v = srow s f (iup (s f) i v) := rfl
theorem srow_srow (s : St) (f : Nat) (g h : Nat → Int) : srow (srow s f g) f h = srow s f h := by
  funext x
  by_cases e : x = f
  · subst e; rw [srow_s, srow_s]
  · rw [srow_n e, srow_n e, srow_n e]
theorem srow_comm (s : St) {f g : Nat} (u v : Nat → Int) (h : f ≠ g) : srow (srow s f u) g v = srow (srow s g v) f u := by
  funext x
  by_cases e : x = f
  · subst e; rw [srow_n h, srow_s, srow_s]
  · by_cases e2 : x = g
    · subst e2; rw [srow_s, srow_n e, srow_s]
    · rw [srow_n e2, srow_n e, srow_n e, srow_n e2]
theorem srow_self (s : St) (f : Nat) : srow s f (s f) = s := by
  funext x
  by_cases e : x = f
  · subst e; rw [srow_s]
  · rw [srow_n e]
def sp_child (s : St) (p : Int) : Int × St := if p < 0 ∨ s 1 0 ≤ p ∨ s 1 0 = 3 then (-1, s) else (s 1 0, sup (sup s 0 (s 1 0).toNat p) 1 0 (s 1 0 + 1))
def sp_need (s : St) (k z : Int) : Int × St := if k < 0 ∨ 11 < k ∨ s 4 0 = 4 then (-1, s) else (s 4 0 + 1, sup (sup (sup s 2 (s 4 0).toNat k) 3 (s 4 0).toNat z) 4 0 (s 4 0 + 1))
def sp_drop (s : St) : Int × St := (s 4 0, sup s 4 0 0)
def pr (i k : Int) : Nat := 12 * i.toNat + k.toNat
def sp_bind (s : St) (i k w v : Int) : Int × St := if i < 0 ∨ s 1 0 ≤ i ∨ k < 0 ∨ 11 < k ∨ s 5 (pr i k) ≠ 0 then (-1, s) else (1, sup (sup s 5 (pr i k) w) 6 (pr i k) v)
def sp_bindLink (s : St) (i k t : Int) : Int × St := if t < 0 ∨ 11 < t then (-1, s) else sp_bind s i k 2 t
def bcl (s : St) (p : Nat) (sc : Int) : St := sup (srow (srow (sup (sup (sup (sup s 5 p 3) 6 p 0) 7 p sc) 8 p (s 4 0)) 9 (cpn (s 9) (4 * p) (s 4 0).toNat (s 2))) 10 (cpn (s 10) (4 * p) (s 4 0).toNat (s 3))) 4 0 0
def sp_bindClass (s : St) (i k sc : Int) : Int × St := if sc < 0 ∨ 2 < sc ∨ i < 0 ∨ s 1 0 ≤ i ∨ k < 0 ∨ 11 < k ∨ s 5 (pr i k) ≠ 0 then (-1, s) else (s 4 0, bcl s (pr i k) sc)
def sp_unbind (s : St) (i k : Int) : Int × St := if i < 0 ∨ s 1 0 ≤ i ∨ k < 0 ∨ 11 < k ∨ s 5 (pr i k) = 0 then (-1, s) else (1, sup (sup (sup s 5 (pr i k) 0) 11 (pr i k) 0) 12 (pr i k) 0)
def sp_open (s : St) : Int × St := if s 15 0 = 0 then (1, sup s 15 0 1) else (-1, s)
def cntz (f : Nat → Int) : Nat → Int
  | 0 => 0
  | n + 1 => cntz f n + (if f n = 0 then 0 else 1)
theorem cntz_r (f : Nat → Int) : ∀ n, 0 ≤ cntz f n ∧ cntz f n ≤ n
  | 0 => ⟨Int.le_refl 0, Int.le_refl 0⟩
  | n + 1 => by
    have := cntz_r f n
    show 0 ≤ cntz f n + (if f n = 0 then 0 else 1) ∧ cntz f n + (if f n = 0 then 0 else 1) ≤ ((n + 1 : Nat) : Int)
    split <;> omega
def zer (f : Nat → Int) (n : Nat) : Nat → Int := fun j => if j < n then 0 else f j
def sp_close (s : St) : Int × St := if s 15 0 = 0 then (-1, s) else (cntz (s 12) 36, srow (sup s 15 0 0) 12 (zer (s 12) 36))
theorem zer_0 (f : Nat → Int) : zer f 0 = f := by funext j; simp [zer]
theorem zer_1 (f : Nat → Int) (k : Nat) : iup (zer f k) k 0 = zer f (k + 1) := by
  funext j
  unfold iup zer
  by_cases e : j = k
  · subst e; simp
  · by_cases e2 : j < k
    · rw [if_neg e, if_pos e2, if_pos (by omega)]
    · rw [if_neg e, if_neg e2, if_neg (by omega)]
def cp36 (g f : Nat → Int) (n : Nat) : Nat → Int := fun j => if j < n then f j else g j
theorem cp36_0 (g f : Nat → Int) : cp36 g f 0 = g := by funext j; simp [cp36]
theorem cp36_1 (g f : Nat → Int) (k : Nat) : iup (cp36 g f k) k (f k) = cp36 g f (k + 1) := by
  funext j
  unfold iup cp36
  by_cases e : j = k
  · subst e; simp
  · by_cases e2 : j < k
    · rw [if_neg e, if_pos e2, if_pos (by omega)]
    · rw [if_neg e, if_neg e2, if_neg (by omega)]
def kcp (s : St) (n : Nat) : St := srow (srow s 13 (cp36 (s 13) (s 11) n)) 14 (cp36 (s 14) (s 12) n)
def tbk (s : St) (m : Int) (n : Nat) : St := srow (srow (sup s 23 0 m) 11 (cp36 (s 11) (s 13) n)) 12 (cp36 (s 12) (s 14) n)
theorem kcp_0 (s : St) : kcp s 0 = s := by unfold kcp; rw [cp36_0, cp36_0, srow_self]; exact srow_self s 14
theorem tbk_0 (s : St) (m : Int) : tbk s m 0 = sup s 23 0 m := by
  unfold tbk
  rw [cp36_0, cp36_0]
  have e1 : srow (sup s 23 0 m) 11 (s 11) = sup s 23 0 m := srow_self (sup s 23 0 m) 11
  rw [e1]
  exact srow_self (sup s 23 0 m) 12
theorem kcp_1 (s : St) (k : Nat) : sup (sup (kcp s k) 13 k (s 11 k)) 14 k (s 12 k) = kcp s (k + 1) := by
  unfold kcp
  rw [sup_srow, sup_srow]
  have e1 : (srow (srow s 13 (cp36 (s 13) (s 11) k)) 14 (cp36 (s 14) (s 12) k)) 13 = cp36 (s 13) (s 11) k := rfl
  rw [e1, cp36_1]
  have e2 : (srow (srow (srow s 13 (cp36 (s 13) (s 11) k)) 14 (cp36 (s 14) (s 12) k)) 13 (cp36 (s 13) (s 11) (k + 1))) 14 = cp36 (s 14) (s 12) k := rfl
  rw [e2, cp36_1]
  funext x
  by_cases x1 : x = 14
  · subst x1; rw [srow_s, srow_s]
  · rw [srow_n x1, srow_n x1]
    by_cases x2 : x = 13
    · subst x2; rw [srow_s, srow_s]
    · rw [srow_n x2, srow_n x2, srow_n x1, srow_n x2]
theorem tbk_1 (s : St) (m : Int) (k : Nat) : sup (sup (tbk s m k) 11 k (s 13 k)) 12 k (s 14 k) = tbk s m (k + 1) := by
  unfold tbk
  generalize hu : sup s 23 0 m = u
  rw [sup_srow, sup_srow]
  have e1 : (srow (srow u 11 (cp36 (s 11) (s 13) k)) 12 (cp36 (s 12) (s 14) k)) 11 = cp36 (s 11) (s 13) k := rfl
  rw [e1, cp36_1]
  have e2 : (srow (srow (srow u 11 (cp36 (s 11) (s 13) k)) 12 (cp36 (s 12) (s 14) k)) 11 (cp36 (s 11) (s 13) (k + 1))) 12 = cp36 (s 12) (s 14) k := rfl
  rw [e2, cp36_1]
  funext x
  by_cases x1 : x = 12
  · subst x1; rw [srow_s, srow_s]
  · rw [srow_n x1, srow_n x1]
    by_cases x2 : x = 11
    · subst x2; rw [srow_s, srow_s]
    · rw [srow_n x2, srow_n x2, srow_n x1, srow_n x2]
/-- about, count, home, held -/
def sp_about (s : St) (i w : Int) : Int := if i < 0 ∨ s 23 0 ≤ i then -1 else if w = 0 then s 16 i.toNat else if w = 1 then s 17 i.toNat else if w = 2 then s 19 i.toNat else if w = 3 then s 18 i.toNat else -1
def sp_count (s : St) (w : Int) : Int := if w = 0 then s 1 0 else if w = 1 then s 23 0 else if w = 2 then cntz (s 5) 36 else if w = 3 then cntz (s 11) 36 else if w = 4 then cntz (s 12) 36 else if w = 5 then s 15 0 else -1
def sp_home (s : St) (i k : Int) : Int := if i < 0 ∨ s 1 0 ≤ i ∨ k < 0 ∨ 11 < k then -1 else if sn s i.toNat k.toNat < 0 then 3 else sn s i.toNat k.toNat / 12
def sp_held (s : St) (i n : Int) : Int := if i < 0 ∨ s 23 0 ≤ i ∨ n < 0 ∨ s 19 i.toNat ≤ n then -1 else s 22 (4 * i.toNat + n.toNat)
theorem sn_r {s : St} (h : Inv s) {i k : Nat} (hi : i < 3) (hk : k < 12) : -1 ≤ sn s i k ∧ sn s i k < 36 := by
  rcases sn_cases h.par (key := k) hi with e | ⟨j, hj, e, -⟩
  · omega
  · omega
theorem zer_00 (s : St) : srow (sup s 15 0 0) 12 (zer (s 12) 0) = sup s 15 0 0 := by
  rw [zer_0]
  exact srow_self (sup s 15 0 0) 12
end
section
/-! the machine's own invariant -/
theorem srow2_sup (u : St) {f g : Nat} (a b : Nat → Int) (h : f ≠ g) (x y : Nat) (v w : Int) : sup (sup (srow (srow u f a) g b) f x v) g y w = srow (srow u f (iup a x v)) g (iup b y w) := by
  funext z
  rw [sup_srow, sup_srow]
  by_cases z1 : z = g
  · subst z1
    rw [srow_s, srow_s, srow_n (Ne.symm h), srow_s]
  · rw [srow_n z1, srow_n z1]
    by_cases z2 : z = f
    · subst z2
      rw [srow_s, srow_s, srow_n h, srow_s]
    · rw [srow_n z2, srow_n z2, srow_n z1, srow_n z2]
theorem Inv_sem {a b : St} (h : sem a b) (hb : Inv b) : Inv a := by
  have e : ∀ f, f < 24 → a f = b f := fun f hf => h f (Or.inl hf)
  unfold Inv pOK
  rw [e 0 (by omega), e 1 (by omega), e 2 (by omega), e 3 (by omega), e 4 (by omega), e 5 (by omega), e 6 (by omega), e 7 (by omega), e 8 (by omega), e 9 (by omega), e 10 (by omega), e 11 (by omega), e 12 (by omega), e 15 (by omega), e 16 (by omega), e 17 (by omega), e 18 (by omega), e 19 (by omega), e 20 (by omega), e 21 (by omega), e 22 (by omega), e 23 (by omega)]
  exact hb
def fok (s : St) (p : Int) : Prop := 0 ≤ p ∧ p < 36 ∧ (s 5 p.toNat = 2 ∨ (s 5 p.toNat = 3 ∧ ¬ (s 7 p.toNat = 2 ∧ s 15 0 = 0)))
def MI (s : St) : Prop := (0 ≤ s 27 0 ∧ s 27 0 ≤ 36) ∧ (∀ j : Nat, (j : Int) < s 27 0 → fok s (s 24 j)) ∧ (∀ i j : Nat, (i : Int) < s 27 0 → (j : Int) < s 27 0 → s 24 i = s 24 j → i = j) ∧ (∀ j : Nat, (j : Int) < s 27 0 → 0 ≤ s 25 j ∧ s 25 j ≤ 4) ∧ (∀ j : Nat, (j : Int) + 1 < s 27 0 → s 25 j ≤ 3) ∧ ∀ j, 0 ≤ s 26 j ∧ s 26 j ≤ 1000000000000
theorem MI.top {s : St} (h : MI s) : 0 ≤ s 27 0 ∧ s 27 0 ≤ 36 := h.1
theorem MI.fr {s : St} (h : MI s) {j : Nat} (hj : (j : Int) < s 27 0) : fok s (s 24 j) := h.2.1 j hj
theorem MI.dis {s : St} (h : MI s) {i j : Nat} (hi : (i : Int) < s 27 0) (hj : (j : Int) < s 27 0) (e : s 24 i = s 24 j) : i = j := h.2.2.1 i j hi hj e
theorem MI.got {s : St} (h : MI s) {j : Nat} (hj : (j : Int) < s 27 0) : 0 ≤ s 25 j ∧ s 25 j ≤ 4 := h.2.2.2.1 j hj
theorem MI.got3 {s : St} (h : MI s) {j : Nat} (hj : (j : Int) + 1 < s 27 0) : s 25 j ≤ 3 := h.2.2.2.2.1 j hj
theorem MI.val {s : St} (h : MI s) (j : Nat) : 0 ≤ s 26 j ∧ s 26 j ≤ 1000000000000 := h.2.2.2.2.2 j
theorem fok_mv {a b : St} (h5 : a 5 = b 5) (h7 : a 7 = b 7) (h15 : a 15 = b 15) {p : Int} (h : fok b p) : fok a p := by
  unfold fok
  rw [h5, h7, h15]
  exact h
/-- with the pair not in the pile there is room -/
theorem MI.room {s : St} (h : MI s) {p : Nat} (hp : p < 36) (hw : ¬ wkg s p = true) : s 27 0 < 36 := by
  apply Classical.byContradiction
  intro c
  have ht : s 27 0 = 36 := by have := h.top; omega
  apply hw
  obtain ⟨j, hj, e⟩ := pig_all (n := 36) (f := fun j => (s 24 j).toNat) (fun j hj => by
    obtain ⟨h1, h2, -⟩ := h.fr (j := j) (by omega)
    show (s 24 j).toNat < 36
    omega) (fun a b ha hb eab => h.dis (by omega) (by omega) (by
    obtain ⟨h1, h2, -⟩ := h.fr (j := a) (by omega)
    obtain ⟨h3, h4, -⟩ := h.fr (j := b) (by omega)
    have eab : (s 24 a).toNat = (s 24 b).toNat := eab
    omega)) hp
  obtain ⟨h1, h2, -⟩ := h.fr (j := j) (by omega)
  have e : (s 24 j).toNat = p := e
  unfold wkg
  rw [List.any_eq_true]
  exact ⟨j, List.mem_range.mpr (by omega), decide_eq_true (by omega)⟩
theorem wkg_no {s : St} {p : Nat} (hw : ¬ wkg s p = true) {j : Nat} (hj : (j : Int) < s 27 0) : s 24 j ≠ (p : Int) := by
  intro e
  apply hw
  unfold wkg
  rw [List.any_eq_true]
  exact ⟨j, List.mem_range.mpr (by omega), decide_eq_true e⟩
theorem mpush_24 {s : St} {p t : Nat} (ht : s 27 0 = (t : Int)) : mpush s p 24 = iup (s 24) t p := by
  show iup (s 24) (s 27 0).toNat p = _
  rw [ht, Int.toNat_natCast]
theorem mpush_25 {s : St} {p t : Nat} (ht : s 27 0 = (t : Int)) : mpush s p 25 = iup (s 25) t 0 := by
  show iup (s 25) (s 27 0).toNat 0 = _
  rw [ht, Int.toNat_natCast]
theorem mpush_27 (s : St) (p : Nat) : mpush s p 27 0 = s 27 0 + 1 := by
  show iup (s 27) 0 (s 27 0 + 1) 0 = _
  rw [iup_s]
theorem MI.push {s : St} (h : MI s) (h3 : ∀ j : Nat, (j : Int) < s 27 0 → s 25 j ≤ 3) {p : Nat} (hp : p < 36) (hw : ¬ wkg s p = true) (hf : fok s p) : MI (mpush s p) := by
  obtain ⟨t, ht⟩ := Int.eq_ofNat_of_zero_le h.top.1
  have hr := h.room hp hw
  have e24 := mpush_24 (p := p) ht
  have e25 := mpush_25 (p := p) ht
  have e27 := mpush_27 s p
  have hf' : ∀ q, fok s q → fok (mpush s p) q := fun q => fok_mv rfl rfl rfl
  refine ⟨by omega, fun j hj => ?_, fun i j hi hj e => ?_, fun j hj => ?_, fun j hj => ?_, h.val⟩
  · rw [e24]
    by_cases c : j = t
    · subst c; rw [iup_s]; exact hf' _ hf
    · rw [iup_n c]; exact hf' _ (h.fr (by omega))
  · rw [e24] at e
    by_cases ci : i = t
    · by_cases cj : j = t
      · omega
      · subst ci
        rw [iup_s, iup_n cj] at e
        exact absurd e.symm (wkg_no hw (by omega))
    · by_cases cj : j = t
      · subst cj
        rw [iup_s, iup_n ci] at e
        exact absurd e (wkg_no hw (by omega))
      · rw [iup_n ci, iup_n cj] at e
        exact h.dis (by omega) (by omega) e
  · rw [e25]
    by_cases c : j = t
    · subst c; rw [iup_s]; omega
    · rw [iup_n c]; exact h.got (by omega)
  · rw [e25]
    by_cases c : j = t
    · omega
    · rw [iup_n c]; exact h3 j (by omega)
theorem mbegin_ok {s : St} (hI : Inv s) (h : MI s) (h3 : ∀ j : Nat, (j : Int) < s 27 0 → s 25 j ≤ 3) {i k : Nat} (hi : i < 3) (hk : k < 12) :
    Inv (mbegin s i k).2 ∧ MI (mbegin s i k).2 ∧ -100 ≤ (mbegin s i k).1 ∧ (mbegin s i k).1 ≤ 1000000000000 ∧ ((mbegin s i k).1 ≠ -100 → (mbegin s i k).2 = s) := by
  unfold mbegin
  by_cases c : sn s i k < 0
  · rw [if_pos c]; exact ⟨hI, h, by show (-100 : Int) ≤ -2; omega, by show (-2 : Int) ≤ _; omega, fun _ => rfl⟩
  · rw [if_neg c]
    obtain ⟨p, hp, e, h0, -⟩ := hI.seen hi hk c
    rw [e, Int.toNat_natCast]
    have hkd := hI.kd p
    have hsi := hI.si p
    have hre := hI.re p
    have hnu := hI.nu p
    have hmd := hI.md
    unfold r32 at hnu
    unfold mbeginp
    by_cases c1 : s 5 p = 1
    · rw [if_pos c1]; exact ⟨hI, h, by show -100 ≤ 10000000000 + s 6 p; omega, by show 10000000000 + s 6 p ≤ _; omega, fun _ => rfl⟩
    · rw [if_neg c1]
      by_cases c2 : s 5 p = 3 ∧ s 7 p = 1 ∧ s 11 p ≠ 0
      · rw [if_pos c2]; exact ⟨hI, h, by show -100 ≤ s 11 p - 1; omega, by show s 11 p - 1 ≤ _; omega, fun _ => rfl⟩
      · rw [if_neg c2]
        by_cases c3 : s 5 p = 3 ∧ s 7 p = 2 ∧ s 15 0 ≠ 0 ∧ s 12 p ≠ 0
        · rw [if_pos c3]; exact ⟨hI, h, by show -100 ≤ s 12 p - 1; omega, by show s 12 p - 1 ≤ _; omega, fun _ => rfl⟩
        · rw [if_neg c3]
          by_cases c4 : wkg s p = true
          · rw [if_pos c4]; exact ⟨hI, h, by show (-100 : Int) ≤ -3; omega, by show (-3 : Int) ≤ _; omega, fun _ => rfl⟩
          · rw [if_neg c4]
            by_cases c5 : s 5 p = 3 ∧ s 7 p = 2 ∧ s 15 0 = 0
            · rw [if_pos c5]; exact ⟨hI, h, by show (-100 : Int) ≤ -4; omega, by show (-4 : Int) ≤ _; omega, fun _ => rfl⟩
            · rw [if_neg c5]
              refine ⟨Inv_sem (sem_push (fun _ _ => rfl)) hI, h.push h3 hp c4 ⟨by omega, by omega, ?_⟩, by show (-100 : Int) ≤ -100; omega, by show (-100 : Int) ≤ _; omega, fun z => absurd rfl z⟩
              rw [Int.toNat_natCast]
              by_cases c6 : s 5 p = 2
              · exact Or.inl c6
              · exact Or.inr ⟨by omega, fun z => c5 ⟨by omega, z⟩⟩
theorem MI.put {s : St} (h : MI s) {me : Nat} (hme : (me : Int) + 1 = s 27 0) (hg : s 25 me ≤ 3) {v : Int} (hv : 0 ≤ v ∧ v ≤ 1000000000000) : MI (mput s me v) := by
  have e27 : mput s me v 27 = s 27 := rfl
  have e24 : mput s me v 24 = s 24 := rfl
  have hf' : ∀ q, fok s q → fok (mput s me v) q := fun q => fok_mv rfl rfl rfl
  refine ⟨by rw [e27]; exact h.top, fun j hj => hf' _ (h.fr hj), fun i j hi hj e => h.dis hi hj e, fun j hj => ?_, fun j hj => ?_, fun j => ?_⟩
  · rw [mput_25]
    have h1 := h.got (j := me) (by omega)
    by_cases c : j = me
    · subst c; rw [iup_s]; omega
    · rw [iup_n c]; exact h.got hj
  · rw [mput_25]
    rw [e27] at hj
    rw [iup_n (by omega)]
    exact h.got3 hj
  · rw [mput_26]
    by_cases c : j = 4 * me + (s 25 me).toNat
    · rw [c, iup_s]; exact hv
    · rw [iup_n c]; exact h.val j
theorem MI_sem {a b : St} (h : MI b) (h5 : a 5 = b 5) (h7 : a 7 = b 7) (h15 : a 15 = b 15) (h24 : a 24 = b 24) (h25 : a 25 = b 25) (h26 : a 26 = b 26) (h27 : a 27 = b 27) : MI a := by
  have hf' : ∀ q, fok b q → fok a q := fun q => fok_mv h5 h7 h15
  unfold MI
  rw [h24, h25, h26, h27]
  exact ⟨h.1, fun j hj => hf' _ (h.2.1 j hj), h.2.2⟩
def mok (r : Int × St) : Prop := Inv r.2 ∧ MI r.2 ∧ -100 ≤ r.1 ∧ r.1 ≤ 1000000000000
theorem mmake_ok {s : St} (hI : Inv s) (h : MI s) {p w : Nat} (hp : p < 36) (h3 : s 5 p = 3) (hno : ¬ (s 7 p = 2 ∧ s 15 0 = 0)) : mok (mmake s p w) := by
  have hmd := hI.md
  unfold mmake
  by_cases c : s 23 0 = 100
  · rw [if_pos c]; exact ⟨hI, h, by show (-100 : Int) ≤ -5; omega, by show (-5 : Int) ≤ _; omega⟩
  · rw [if_neg c]
    have e : ∀ f, dyn f = false → mk s p (fun k => s 26 (4 * w + k)) f = s f := fun f hf => mk_o hf
    exact ⟨hI.mkI hp h3 hno c (fun k _ => h.val _), MI_sem h (e 5 rfl) (e 7 rfl) (e 15 rfl) (e 24 rfl) (e 25 rfl) (e 26 rfl) (e 27 rfl), by show -100 ≤ s 23 0; omega, by show s 23 0 ≤ _; omega⟩
/-- one need -/
theorem mone_ok {s : St} (hI : Inv s) (h : MI s) {p me : Nat} (hp : p < 36) (hme : (me : Int) + 1 = s 27 0) (hg : s 25 me ≤ 3) : mok (mone s p me) ∧ ((mone s p me).1 ≠ -100 → (mone s p me).2 = s) := by
  have hnk := hI.nk (4 * p + (s 25 me).toNat)
  unfold mone
  by_cases c : s 10 (4 * p + (s 25 me).toNat) = 1
  · rw [if_pos c]
    exact ⟨⟨hI, h, by show -100 ≤ 20000000000 + 16 * ((p / 12 : Nat) : Int) + s 9 (4 * p + (s 25 me).toNat); omega, by show 20000000000 + 16 * ((p / 12 : Nat) : Int) + s 9 (4 * p + (s 25 me).toNat) ≤ _; omega⟩, fun _ => rfl⟩
  · rw [if_neg c]
    obtain ⟨a1, a2, a3, a4, a5⟩ := mbegin_ok hI h (fun j hj => by
      by_cases e : j = me
      · rw [e]; exact hg
      · exact h.got3 (by omega)) (i := p / 12) (k := (s 9 (4 * p + (s 25 me).toNat)).toNat) (by omega) (by omega)
    exact ⟨⟨a1, a2, a3, a4⟩, a5⟩
end
section
theorem mneeds_ok {p me : Nat} (hp : p < 36) : ∀ (n : Nat) (s : St), Inv s → MI s → (me : Int) + 1 = s 27 0 → s 5 p = 3 → ¬ (s 7 p = 2 ∧ s 15 0 = 0) → n = (s 8 p - s 25 me).toNat → mok (mneeds p me n s) ∧ (0 ≤ (mneeds p me n s).1 → (mneeds p me n s).2 27 = s 27)
  | 0, s, hI, h, hme, h3, hno, hn => by
    refine ⟨mmake_ok hI h hp h3 hno, fun _ => ?_⟩
    show (mmake s p me).2 27 = s 27
    unfold mmake
    by_cases c : s 23 0 = 100
    · rw [if_pos c]
    · rw [if_neg c]; exact mk_o (st := s) (p := p) (vs := fun k => s 26 (4 * me + k)) (f := 27) rfl
  | n + 1, s, hI, h, hme, h3, hno, hn => by
    have hnn := hI.nn p
    have hgt := h.got (j := me) (by omega)
    obtain ⟨⟨o1, o2, o3, o4⟩, o5⟩ := mone_ok hI h hp hme (by omega)
    have es : mneeds p me (n + 1) s = if (mone s p me).1 < 0 then mone s p me else mneeds p me n (mput (mone s p me).2 me (mone s p me).1) := rfl
    by_cases c : (mone s p me).1 < 0
    · rw [es, if_pos c]
      exact ⟨⟨o1, o2, o3, o4⟩, fun z => absurd z (by omega)⟩
    · rw [es, if_neg c, o5 (by omega)]
      have hM := h.put hme (by omega) (v := (mone s p me).1) (by omega)
      obtain ⟨k1, k2⟩ := mneeds_ok hp n (mput s me (mone s p me).1) (Inv_sem (sem_mput (fun _ _ => rfl) me _) hI) hM (by rw [mput_27]; exact hme) h3 hno (by
        rw [mput_25, iup_s]
        show n = (s 8 p - (s 25 me + 1)).toNat
        omega)
      exact ⟨k1, fun z => (k2 z).trans (mput_27 _ _ _)⟩
theorem mwork_ok {s : St} (hI : Inv s) (h : MI s) (ht : 0 < s 27 0) : mok (mwork s) ∧ (0 ≤ (mwork s).1 → (mwork s).2 27 = s 27) := by
  obtain ⟨t, et⟩ := Int.eq_ofNat_of_zero_le (show 0 ≤ s 27 0 - 1 by omega)
  have t27 : s 27 0 = (t : Int) + 1 := by omega
  obtain ⟨f1, f2, f3⟩ := h.fr (j := t) (by omega)
  obtain ⟨p, ep⟩ := Int.eq_ofNat_of_zero_le f1
  rw [mwork_at t27 ep]
  rw [ep, Int.toNat_natCast] at f3
  have hp : p < 36 := by omega
  unfold mworkp
  by_cases c : s 5 p = 2
  · rw [if_pos c]
    have hlk := hI.lk c
    by_cases c2 : s 25 t = 0
    · rw [if_pos c2]
      obtain ⟨a1, a2, a3, a4, a5⟩ := mbegin_ok hI h (fun j hj => by
        by_cases e : j = t
        · rw [e, c2]; omega
        · exact h.got3 (by omega)) (i := p / 12) (k := (s 6 p).toNat) (by omega) (by omega)
      exact ⟨⟨a1, a2, a3, a4⟩, fun z => by rw [a5 (by omega)]⟩
    · rw [if_neg c2]
      have hv := h.val (4 * t)
      exact ⟨⟨hI, h, by show -100 ≤ s 26 (4 * t); omega, by show s 26 (4 * t) ≤ _; omega⟩, fun _ => rfl⟩
  · rw [if_neg c]
    rcases f3 with f3 | f3
    · exact absurd f3 c
    · exact mneeds_ok hp _ s hI h (by omega) f3.1 f3.2 rfl
theorem MI.tk {s : St} (h : MI s) (ht : 0 < s 27 0) {v : Int} (hv : 0 ≤ v ∧ v ≤ 1000000000000) : MI (mtk s v) := by
  obtain ⟨t, et⟩ := Int.eq_ofNat_of_zero_le (show 0 ≤ s 27 0 - 1 by omega)
  have e25 : mtk s v 25 = iup (s 25) t 1 := by
    show iup (s 25) (s 27 0 - 1).toNat 1 = _
    rw [et, Int.toNat_natCast]
  have e26 : mtk s v 26 = iup (s 26) (4 * (s 27 0 - 1).toNat) v := rfl
  have hf' : ∀ q, fok s q → fok (mtk s v) q := fun q => fok_mv rfl rfl rfl
  refine ⟨h.top, fun j hj => hf' _ (h.fr hj), fun i j hi hj e => h.dis hi hj e, fun j hj => ?_, fun j hj => ?_, fun j => ?_⟩
  · rw [e25]
    by_cases c : j = t
    · rw [c, iup_s]; omega
    · rw [iup_n c]; exact h.got hj
  · rw [e25]
    by_cases c : j = t
    · rw [c, iup_s]; omega
    · rw [iup_n c]; exact h.got3 hj
  · rw [e26]
    by_cases c : j = 4 * (s 27 0 - 1).toNat
    · rw [c, iup_s]; exact hv
    · rw [iup_n c]; exact h.val j
theorem MI.pop {s : St} (h : MI s) (ht : 0 < s 27 0) : MI (mpop s) := by
  have e := mpop_27 s
  have hf' : ∀ q, fok s q → fok (mpop s) q := fun q => fok_mv rfl rfl rfl
  have htop := h.top
  exact ⟨by omega, fun j hj => hf' _ (h.fr (by omega)), fun i j hi hj e => h.dis (by omega) (by omega) e, fun j hj => h.got (j := j) (by omega), fun j hj => h.got3 (j := j) (by omega), h.val⟩
theorem MI.del {s : St} (h : MI s) (ht : 1 < s 27 0) {v : Int} (hv : 0 ≤ v ∧ v ≤ 1000000000000) : MI (mdel (mpop s) v) := by
  have e := mpop_27 s
  have hP := h.pop (by omega)
  obtain ⟨t, et⟩ := Int.eq_ofNat_of_zero_le (show 0 ≤ mpop s 27 0 - 1 by omega)
  unfold mdel
  rw [et, Int.toNat_natCast]
  exact hP.put (by omega) (h.got3 (j := t) (by omega)) hv
theorem Inv_o {a b : St} (hb : Inv b) (h : ∀ f, f < 24 → f ≠ 13 → f ≠ 14 → a f = b f) : Inv a := by
  unfold Inv pOK
  rw [h 0 (by omega) (by omega) (by omega), h 1 (by omega) (by omega) (by omega), h 2 (by omega) (by omega) (by omega), h 3 (by omega) (by omega) (by omega), h 4 (by omega) (by omega) (by omega), h 5 (by omega) (by omega) (by omega), h 6 (by omega) (by omega) (by omega), h 7 (by omega) (by omega) (by omega), h 8 (by omega) (by omega) (by omega), h 9 (by omega) (by omega) (by omega), h 10 (by omega) (by omega) (by omega), h 11 (by omega) (by omega) (by omega), h 12 (by omega) (by omega) (by omega), h 15 (by omega) (by omega) (by omega), h 16 (by omega) (by omega) (by omega), h 17 (by omega) (by omega) (by omega), h 18 (by omega) (by omega) (by omega), h 19 (by omega) (by omega) (by omega), h 20 (by omega) (by omega) (by omega), h 21 (by omega) (by omega) (by omega), h 22 (by omega) (by omega) (by omega), h 23 (by omega) (by omega) (by omega)]
  exact hb
theorem mloop_ok : ∀ (n : Nat) (v : Int) (s : St), Inv s → MI s → -100 ≤ v → v ≤ 1000000000000 → mok (mloop n v s)
  | 0, v, s, hI, h, h1, h2 => ⟨hI, h, h1, h2⟩
  | n + 1, v, s, hI, h, h1, h2 => by
    have es : mloop (n + 1) v s = if s 27 0 ≤ 0 then (v, s) else if v < 0 ∧ v ≠ -100 then (v, s) else mcont (mloop n) (mwork s) (s 27 0) := rfl
    rw [es]
    by_cases c : s 27 0 ≤ 0
    · rw [if_pos c]; exact ⟨hI, h, h1, h2⟩
    · rw [if_neg c]
      by_cases c2 : v < 0 ∧ v ≠ -100
      · rw [if_pos c2]; exact ⟨hI, h, h1, h2⟩
      · rw [if_neg c2]
        obtain ⟨⟨w1, w2, w3, w4⟩, w5⟩ := mwork_ok hI h (by omega)
        generalize mwork s = w at w1 w2 w3 w4 w5
        unfold mcont
        by_cases c3 : w.1 < 0
        · rw [if_pos c3]; exact mloop_ok n _ _ w1 w2 w3 w4
        · rw [if_neg c3]
          have e27 : w.2 27 0 = s 27 0 := by rw [w5 (by omega)]
          by_cases c4 : w.2 27 0 = s 27 0 ∧ w.2 5 (w.2 24 (w.2 27 0 - 1).toNat).toNat = 2 ∧ w.2 25 (w.2 27 0 - 1).toNat = 0
          · rw [if_pos c4]
            exact mloop_ok n _ _ (Inv_sem (b := w.2) (fun f hf => by unfold mtk; rw [sup_n (by omega), sup_n (by omega)]) w1) (w2.tk (by omega) (by omega)) w3 w4
          · rw [if_neg c4]
            have ep := mpop_27 w.2
            by_cases c5 : mpop w.2 27 0 = 0
            · rw [if_pos c5]
              exact ⟨Inv_sem (a := mpop w.2) (b := w.2) (fun f hf => by unfold mpop; rw [sup_n (by omega)]) w1, w2.pop (by omega), w3, w4⟩
            · rw [if_neg c5]
              have hpd : sem (mdel (mpop w.2) w.1) w.2 := fun f hf => by
                unfold mdel
                rw [stat_mput _ _ f hf]
                unfold mpop
                rw [sup_n (by omega)]
              have htp := w2.top
              exact mloop_ok n _ _ (Inv_sem hpd w1) (w2.del (by omega) (by omega)) w3 w4
/-- what stays of the machine between the calls -/
def VI (s : St) : Prop := ∀ j, 0 ≤ s 26 j ∧ s 26 j ≤ 1000000000000
theorem VI.mi {s : St} (h : VI s) : MI (sup s 27 0 0) := by
  have e : sup s 27 0 0 27 0 = 0 := show iup (s 27) 0 0 0 = _ from iup_s _ _ _
  exact ⟨by omega, fun j hj => absurd hj (by omega), fun i j hi => absurd hi (by omega), fun j hj => absurd hj (by omega), fun j hj => absurd hj (by omega), h⟩
theorem mgets_mok {s : St} (hI : Inv s) (h : VI s) {i k : Nat} (hi : i < 3) (hk : k < 12) : mok (mgets s i k) := by
  unfold mgets
  have hI' : Inv (sup s 27 0 0) := Inv_sem (b := s) (fun f hf => sup_n (by omega)) hI
  have e : sup s 27 0 0 27 0 = 0 := show iup (s 27) 0 0 0 = _ from iup_s _ _ _
  obtain ⟨a1, a2, a3, a4, -⟩ := mbegin_ok hI' h.mi (fun j hj => absurd hj (by omega)) hi hk
  exact mloop_ok _ _ _ a1 a2 a3 a4
/-! make, piece by piece -/
theorem srow3_sup (u : St) (a b c : Nat → Int) (x y z : Nat) (v w q : Int) : sup (sup (sup (srow (srow (srow u 20 a) 21 b) 22 c) 20 x v) 21 y w) 22 z q = srow (srow (srow u 20 (iup a x v)) 21 (iup b y w)) 22 (iup c z q) := by
  funext f
  by_cases f0 : f = 22
  · subst f0; rfl
  · by_cases f1 : f = 21
    · subst f1; rfl
    · by_cases f2 : f = 20
      · subst f2; rfl
      · rw [sup_n f0, sup_n f1, sup_n f2, srow_n f0, srow_n f1, srow_n f2, srow_n f0, srow_n f1, srow_n f2]
def mk1 (s : St) (p : Nat) : St := sup (sup (sup (sup s 16 (s 23 0).toNat ((p % 12 : Nat) : Int)) 17 (s 23 0).toNat ((p / 12 : Nat) : Int)) 18 (s 23 0).toNat (s 7 p)) 19 (s 23 0).toNat (s 8 p)
def mk2 (s : St) (p w n : Nat) : St := srow (srow (srow (mk1 s p) 20 (cpn (s 20) (4 * (s 23 0).toNat) n (fun k => s 9 (4 * p + k)))) 21 (cpn (s 21) (4 * (s 23 0).toNat) n (fun k => s 10 (4 * p + k)))) 22 (cpn (s 22) (4 * (s 23 0).toNat) n (fun k => s 26 (4 * w + k)))
theorem mk2_0 (s : St) (p w : Nat) : mk2 s p w 0 = mk1 s p := by
  unfold mk2
  rw [cpn_0, cpn_0, cpn_0]
  funext f
  by_cases f0 : f = 22
  · subst f0; rfl
  · by_cases f1 : f = 21
    · subst f1; rfl
    · by_cases f2 : f = 20
      · subst f2; rfl
      · rw [srow_n f0, srow_n f1, srow_n f2]
theorem mk2_1 (s : St) (p w n : Nat) : sup (sup (sup (mk2 s p w n) 20 (4 * (s 23 0).toNat + n) (s 9 (4 * p + n))) 21 (4 * (s 23 0).toNat + n) (s 10 (4 * p + n))) 22 (4 * (s 23 0).toNat + n) (s 26 (4 * w + n)) = mk2 s p w (n + 1) := by
  unfold mk2
  rw [srow3_sup]
  rw [show iup (cpn (s 20) (4 * (s 23 0).toNat) n fun k => s 9 (4 * p + k)) (4 * (s 23 0).toNat + n) (s 9 (4 * p + n)) = cpn (s 20) (4 * (s 23 0).toNat) (n + 1) (fun k => s 9 (4 * p + k)) from cpn_1 (h := fun k => s 9 (4 * p + k))]
  rw [show iup (cpn (s 21) (4 * (s 23 0).toNat) n fun k => s 10 (4 * p + k)) (4 * (s 23 0).toNat + n) (s 10 (4 * p + n)) = cpn (s 21) (4 * (s 23 0).toNat) (n + 1) (fun k => s 10 (4 * p + k)) from cpn_1 (h := fun k => s 10 (4 * p + k))]
  rw [show iup (cpn (s 22) (4 * (s 23 0).toNat) n fun k => s 26 (4 * w + k)) (4 * (s 23 0).toNat + n) (s 26 (4 * w + n)) = cpn (s 22) (4 * (s 23 0).toNat) (n + 1) (fun k => s 26 (4 * w + k)) from cpn_1 (h := fun k => s 26 (4 * w + k))]
def mk3 (s : St) (p w : Nat) : St := sup (mk2 s p w (s 8 p).toNat) 23 0 (s 23 0 + 1)
theorem mk3_o {s : St} {p w f : Nat} (h : f ≠ 11) (h2 : f ≠ 12) : mk3 s p w f = mk s p (fun k => s 26 (4 * w + k)) f := by
  unfold mk
  rw [if_neg h, if_neg h2]
  by_cases c1 : f = 16
  · subst c1; rfl
  · rw [if_neg c1]
    by_cases c2 : f = 17
    · subst c2; rfl
    · rw [if_neg c2]
      by_cases c3 : f = 18
      · subst c3; rfl
      · rw [if_neg c3]
        by_cases c4 : f = 19
        · subst c4; rfl
        · rw [if_neg c4]
          by_cases c5 : f = 20
          · subst c5; rfl
          · rw [if_neg c5]
            by_cases c6 : f = 21
            · subst c6; rfl
            · rw [if_neg c6]
              by_cases c7 : f = 22
              · subst c7; rfl
              · rw [if_neg c7]
                by_cases c8 : f = 23
                · subst c8; rfl
                · rw [if_neg c8]
                  unfold mk3 mk2 mk1
                  rw [sup_n c8, srow_n c7, srow_n c6, srow_n c5, sup_n c4, sup_n c3, sup_n c2, sup_n c1]
theorem mk3_n {s : St} {p w : Nat} (h1 : s 7 p ≠ 1) (h2 : s 7 p ≠ 2) : mk3 s p w = mk s p (fun k => s 26 (4 * w + k)) := by
  funext f
  by_cases c1 : f = 11
  · subst c1
    show s 11 = (if s 7 p = 1 then iup (s 11) p (s 23 0 + 1) else s 11)
    rw [if_neg h1]
  · by_cases c2 : f = 12
    · subst c2
      show s 12 = (if s 7 p = 2 then iup (s 12) p (s 23 0 + 1) else s 12)
      rw [if_neg h2]
    · exact mk3_o c1 c2
theorem mk3_1 {s : St} {p w : Nat} (h1 : s 7 p = 1) : sup (mk3 s p w) 11 p (s 23 0 + 1) = mk s p (fun k => s 26 (4 * w + k)) := by
  funext f
  by_cases c1 : f = 11
  · subst c1
    show iup (s 11) p (s 23 0 + 1) = (if s 7 p = 1 then iup (s 11) p (s 23 0 + 1) else s 11)
    rw [if_pos h1]
  · rw [sup_n c1]
    by_cases c2 : f = 12
    · subst c2
      show s 12 = (if s 7 p = 2 then iup (s 12) p (s 23 0 + 1) else s 12)
      rw [if_neg (by omega)]
    · exact mk3_o c1 c2
theorem mk3_2 {s : St} {p w : Nat} (h1 : s 7 p = 2) : sup (mk3 s p w) 12 p (s 23 0 + 1) = mk s p (fun k => s 26 (4 * w + k)) := by
  funext f
  by_cases c2 : f = 12
  · subst c2
    show iup (s 12) p (s 23 0 + 1) = (if s 7 p = 2 then iup (s 12) p (s 23 0 + 1) else s 12)
    rw [if_pos h1]
  · rw [sup_n c2]
    by_cases c1 : f = 11
    · subst c1
      show s 11 = (if s 7 p = 1 then iup (s 11) p (s 23 0 + 1) else s 11)
      rw [if_neg (by omega)]
    · exact mk3_o c1 c2
end
section
/-! taking back -/
def cpd (u : St) : Prop := ∀ j, j < 36 → u 13 j = u 11 j ∧ u 14 j = u 12 j
theorem kcp_cpd (s : St) : cpd (kcp s 36) := by
  intro j hj
  show cp36 (s 13) (s 11) 36 j = s 11 j ∧ cp36 (s 14) (s 12) 36 j = s 12 j
  unfold cp36
  rw [if_pos hj, if_pos hj]
  exact ⟨rfl, rfl⟩
theorem kcp_o (s : St) {n f : Nat} (h : f ≠ 13) (h2 : f ≠ 14) : kcp s n f = s f := by
  unfold kcp
  rw [srow_n h2, srow_n h]
theorem kcp_inv {s : St} (h : Inv s) : Inv (kcp s 36) := Inv_o h (fun f _ h1 h2 => kcp_o s h1 h2)
theorem kcp_seq (s : St) : seq (kcp s 36) s := ⟨fun f hf => kcp_o s (by rintro rfl; cases hf) (by rintro rfl; cases hf), fun _ _ => ⟨rfl, rfl, rfl, rfl⟩, fun _ _ => ⟨rfl, rfl, rfl⟩⟩
theorem tbk_o {g : St} {m : Int} {n f : Nat} (h : f ≠ 11) (h2 : f ≠ 12) (h3 : f ≠ 23) : tbk g m n f = g f := by
  unfold tbk
  rw [srow_n h2, srow_n h, sup_n h3]
theorem back_ok {u : St} (hI : Inv u) (hv : VI u) (hc : cpd u) {i k : Nat} (hi : i < 3) (hk : k < 12) :
    (mgets u i k).1 = (rget 37 (fun _ => false) u i k).1 ∧ Inv (mgets u i k).2 ∧ VI (mgets u i k).2 ∧ sem (mgets u i k).2 (rget 37 (fun _ => false) u i k).2 ∧
    Inv (tbk (mgets u i k).2 (u 23 0) 36) ∧ VI (tbk (mgets u i k).2 (u 23 0) 36) ∧ seq (tbk (mgets u i k).2 (u 23 0) 36) u ∧ cpd (tbk (mgets u i k).2 (u 23 0) 36) := by
  obtain ⟨e1, e2⟩ := mgets_ok hI hi hk
  obtain ⟨o1, o2, o3, o4⟩ := rget_ok 37 (fun _ => false) u i k hI hi hk
  obtain ⟨q1, q2, q3, q4⟩ := mgets_mok hI hv hi hk
  generalize mgets u i k = g at e1 e2 q1 q2 q3 q4 ⊢
  generalize rget 37 (fun _ => false) u i k = r at e1 e2 o1 o2 o3 o4 ⊢
  obtain ⟨g1, g2, g3, g4, g5, g6, g7⟩ := o2
  have st : ∀ f, dyn f = false → f < 24 → g.2 f = u f := fun f h1 h2 => (e2 f (Or.inl h2)).trans (g1 f h1)
  have e11 : tbk g.2 (u 23 0) 36 11 = u 11 := by
    funext j
    show cp36 (g.2 11) (g.2 13) 36 j = u 11 j
    unfold cp36
    by_cases c : j < 36
    · rw [if_pos c, st 13 rfl (by omega)]; exact (hc j c).1
    · rw [if_neg c, e2 11 (by omega)]
      have := g3 j
      omega
  have e12 : tbk g.2 (u 23 0) 36 12 = u 12 := by
    funext j
    show cp36 (g.2 12) (g.2 14) 36 j = u 12 j
    unfold cp36
    by_cases c : j < 36
    · rw [if_pos c, st 14 rfl (by omega)]; exact (hc j c).2
    · rw [if_neg c, e2 12 (by omega)]
      have := g4 j
      omega
  have e23 : tbk g.2 (u 23 0) 36 23 = u 23 := by
    funext j
    show iup (g.2 23) 0 (u 23 0) j = u 23 j
    by_cases c : j = 0
    · subst c; rw [iup_s]
    · rw [iup_n c, e2 23 (by omega)]; exact g7 j c
  have hinst : ∀ i : Nat, (i : Int) < u 23 0 → g.2 16 i = u 16 i ∧ g.2 17 i = u 17 i ∧ g.2 18 i = u 18 i ∧ g.2 19 i = u 19 i := fun i hi => by
    rw [e2 16 (by omega), e2 17 (by omega), e2 18 (by omega), e2 19 (by omega)]; exact g5 i hi
  have hinst2 : ∀ j : Nat, (j : Int) < 4 * u 23 0 → g.2 20 j = u 20 j ∧ g.2 21 j = u 21 j ∧ g.2 22 j = u 22 j := fun i hi => by
    rw [e2 20 (by omega), e2 21 (by omega), e2 22 (by omega)]; exact g6 i hi
  refine ⟨e1, q1, q2.val, e2, ?_, q2.val, ⟨fun f hf => ?_, fun i hi => ?_, fun j hj => ?_⟩, fun j hj => ?_⟩
  · have z : ∀ f, f ≠ 11 → f ≠ 12 → f ≠ 23 → tbk g.2 (u 23 0) 36 f = g.2 f := fun f h1 h2 h3 => tbk_o h1 h2 h3
    have z0 : ∀ f, dyn f = false → f < 24 → tbk g.2 (u 23 0) 36 f = u f := fun f h1 h2 => (z f (by rintro rfl; cases h1) (by rintro rfl; cases h1) (by rintro rfl; cases h1)).trans (st f h1 h2)
    unfold Inv pOK
    rw [e11, e12, e23, z0 0 rfl (by omega), z0 1 rfl (by omega), z0 2 rfl (by omega), z0 3 rfl (by omega), z0 4 rfl (by omega), z0 5 rfl (by omega), z0 6 rfl (by omega), z0 7 rfl (by omega), z0 8 rfl (by omega), z0 9 rfl (by omega), z0 10 rfl (by omega), z0 15 rfl (by omega), z 16 (by omega) (by omega) (by omega), z 17 (by omega) (by omega) (by omega), z 18 (by omega) (by omega) (by omega), z 19 (by omega) (by omega) (by omega), z 20 (by omega) (by omega) (by omega), z 21 (by omega) (by omega) (by omega), z 22 (by omega) (by omega) (by omega)]
    exact ⟨hI.inj, hI.par, hI.bn, hI.bk, hI.bz, hI.kd, fun _ => hI.kj, hI.nu, fun _ => hI.lk, hI.sc, hI.nn, hI.nk, hI.nz, hI.si, fun _ => hI.si2, hI.re, fun _ => hI.re2, hI.op, hI.md, q1.ik, q1.ij, fun i hi => by rw [(hinst i hi).2.1]; exact hI.ij2 hi, q1.is, q1.inn, q1.ink, q1.iz, q1.ivv⟩
  · by_cases c1 : f = 11
    · subst c1; exact e11
    · by_cases c2 : f = 12
      · subst c2; exact e12
      · by_cases c3 : f = 23
        · subst c3; exact e23
        · rw [tbk_o c1 c2 c3]
          simp only [core, Bool.or_eq_true, decide_eq_true_eq, beq_iff_eq] at hf
          exact st f (by
            simp only [dyn, Bool.or_eq_false_iff, beq_eq_false_iff_ne, Bool.and_eq_false_iff, decide_eq_false_iff_not]
            omega) (by omega)
  · exact hinst i hi
  · exact hinst2 j hj
  · show g.2 13 j = tbk g.2 (u 23 0) 36 11 j ∧ g.2 14 j = tbk g.2 (u 23 0) 36 12 j
    rw [e11, e12, st 13 rfl (by omega), st 14 rfl (by omega)]
    exact hc j hj
/-- get, ask, broken -/
def sp_get (s : St) (i k : Int) : Int × St := if i < 0 ∨ s 1 0 ≤ i ∨ k < 0 ∨ 11 < k then (-1, s) else sget s i.toNat k.toNat
def sp_ask (s : St) (i n : Int) : Int × St := if i < 0 ∨ s 23 0 ≤ i ∨ n < 0 ∨ s 19 i.toNat ≤ n then (-1, s) else if s 21 (4 * i.toNat + n.toNat) = 1 then sget s (s 17 i.toNat).toNat (s 20 (4 * i.toNat + n.toNat)).toNat else (s 22 (4 * i.toNat + n.toNat), s)
def brk (s : St) (i : Nat) : Nat → Nat → Int
  | 0, _ => 12
  | n + 1, k => if 0 ≤ sn s i k ∧ (rget 37 (fun _ => false) s i k).1 < 0 then (k : Int) else brk s i n (k + 1)
def sp_broken (s : St) (i : Int) : Int := if i < 0 ∨ s 1 0 ≤ i then -1 else brk s i.toNat 12 0
theorem sget_cg {a b : St} (h : seq a b) (i k : Nat) : (sget a i k).1 = (sget b i k).1 := by
  unfold sget
  have e := (rget_cg 37 (fun _ => false) a b i k h.1).1
  by_cases c : (rget 37 (fun _ => false) b i k).1 < 0
  · rw [if_pos c, if_pos (by rw [e]; exact c)]; exact e
  · rw [if_neg c, if_neg (by rw [e]; exact c)]; exact e
/-- get: what the reference comes to -/
theorem get_ok {s : St} (hI : Inv s) (hv : VI s) {i k : Nat} (hi : i < 3) (hk : k < 12) :
    (mgets (kcp s 36) i k).1 = (sget s i k).1 ∧ -5 ≤ (sget s i k).1 ∧ (sget s i k).1 ≤ 1000000000000 ∧
    ((sget s i k).1 < 0 → Inv (tbk (mgets (kcp s 36) i k).2 (s 23 0) 36) ∧ VI (tbk (mgets (kcp s 36) i k).2 (s 23 0) 36) ∧ seq (tbk (mgets (kcp s 36) i k).2 (s 23 0) 36) (sget s i k).2) ∧
    (0 ≤ (sget s i k).1 → Inv (mgets (kcp s 36) i k).2 ∧ VI (mgets (kcp s 36) i k).2 ∧ seq (mgets (kcp s 36) i k).2 (sget s i k).2) := by
  obtain ⟨b1, b2, b3, b4, b5, b6, b7, -⟩ := back_ok (kcp_inv hI) (show VI (kcp s 36) from hv) (kcp_cpd s) hi hk
  have e := (rget_cg 37 (fun _ => false) (kcp s 36) s i k (kcp_seq s).1).1
  obtain ⟨o1, o2, o3, o4⟩ := rget_ok 37 (fun _ => false) s i k hI hi hk
  have es : (sget s i k).1 = (rget 37 (fun _ => false) s i k).1 := by
    unfold sget
    by_cases c : (rget 37 (fun _ => false) s i k).1 < 0
    · rw [if_pos c]
    · rw [if_neg c]
  refine ⟨by rw [b1, e, es], by omega, by omega, fun z => ⟨b5, b6, ?_⟩, fun z => ⟨b2, b3, ?_⟩⟩
  · have ez : (sget s i k).2 = s := by
      unfold sget
      rw [if_pos (by omega)]
    rw [ez]
    exact b7.tr (kcp_seq s)
  · have ez : (sget s i k).2 = (rget 37 (fun _ => false) s i k).2 := by
      unfold sget
      rw [if_neg (by omega)]
    rw [ez]
    have ex := (rget_cx 37 (fun _ => false) (kcp s 36) s i k (fun f hf => kcp_o s (by rintro rfl; cases hf) (by rintro rfl; cases hf))).2
    exact (sem_seq b4).tr ⟨fun f hf => ex f (by
      simp only [core, Bool.or_eq_true, decide_eq_true_eq, beq_iff_eq] at hf
      simp only [xok, Bool.and_eq_true, bne_iff_ne]
      omega), fun _ _ => by rw [ex 16 rfl, ex 17 rfl, ex 18 rfl, ex 19 rfl]; exact ⟨rfl, rfl, rfl, rfl⟩, fun _ _ => by rw [ex 20 rfl, ex 21 rfl, ex 22 rfl]; exact ⟨rfl, rfl, rfl⟩⟩
end
section
/-! ===== lN n to 2^64: shifts, and, or, masks, one bit ===== -/
theorem wb_tb (n : Nat) : (lN n).toBitVec = BitVec.ofNat 64 n := rfl
theorem wb_inj {a b : Int64} (h : a.toBitVec = b.toBitVec) : a = b := Int64.toBitVec_inj.mp h
theorem wb_tn {n : Nat} (h : n < 2 ^ 64) : (lN n).toBitVec.toNat = n := by rw [wb_tb, BitVec.toNat_ofNat, Nat.mod_eq_of_lt h]
theorem wb_of (x : Int64) : ∃ n, n < 2 ^ 64 ∧ x = lN n := ⟨x.toBitVec.toNat, x.toBitVec.isLt, wb_inj (by rw [wb_tb]; simp)⟩
theorem wb_of32 (x : Int32) : ∃ n, n < 2 ^ 32 ∧ x = nI n := ⟨x.toBitVec.toNat, x.toBitVec.isLt, Int32.toBitVec_inj.mp (by show _ = BitVec.ofNat 32 _; simp)⟩
theorem wb_c : ∀ k, k < 64 → ((nI k).toInt64 &&& 63) = lN k := by decide +kernel
theorem wb_cu : ∀ k, k < 64 → ((nI k).toInt64.toUInt64 &&& Int64.toUInt64 63) = UInt64.ofNat k := by decide +kernel
theorem wb_sm : ∀ k, k < 64 → (BitVec.ofNat 64 k).smod 64 = BitVec.ofNat 64 k := by decide +kernel
theorem wb_pw {a b : Nat} (h : a ≤ b) : 2 ^ b = 2 ^ a * 2 ^ (b - a) := by rw [← Nat.pow_add]; congr 1; omega
theorem wb_lt2 {a b : Nat} (h : a < b) : 2 ^ a < 2 ^ b := Nat.pow_lt_pow_right (by decide) h
theorem wb_mod (n : Nat) : lN n = lN (n % 2 ^ 64) := wb_inj (by rw [wb_tb, wb_tb]; apply BitVec.eq_of_toNat_eq; rw [BitVec.toNat_ofNat, BitVec.toNat_ofNat, Nat.mod_mod])
theorem wb_shr {n k : Nat} (hn : n < 2 ^ 64) (hk : k < 64) : ((lN n).toUInt64 >>> ((nI k).toInt64.toUInt64 &&& Int64.toUInt64 63)).toInt64 = lN (n / 2 ^ k) := by
  rw [wb_cu k hk]
  apply wb_inj
  apply BitVec.eq_of_toNat_eq
  show ((lN n).toUInt64 >>> UInt64.ofNat k).toNat = (BitVec.ofNat 64 _).toNat
  have h1 : (UInt64.ofNat k).toNat = k := by
    show (BitVec.ofNat 64 k).toNat = k
    rw [BitVec.toNat_ofNat, Nat.mod_eq_of_lt (by omega)]
  have h2 : (lN n).toUInt64.toNat = n := wb_tn hn
  rw [UInt64.toNat_shiftRight, h1, h2, Nat.mod_eq_of_lt hk, Nat.shiftRight_eq_div_pow, BitVec.toNat_ofNat, Nat.mod_eq_of_lt (Nat.lt_of_le_of_lt (Nat.div_le_self _ _) hn)]
theorem wb_shl (n : Nat) {k : Nat} (hk : k < 64) : lN n <<< ((nI k).toInt64 &&& 63) = lN (n * 2 ^ k) := by
  rw [wb_c k hk]
  apply wb_inj
  rw [Int64.toBitVec_shiftLeft, wb_tb, wb_tb, wb_tb, wb_sm k hk]
  apply BitVec.eq_of_toNat_eq
  rw [BitVec.shiftLeft_eq', BitVec.toNat_shiftLeft, BitVec.toNat_ofNat, BitVec.toNat_ofNat, BitVec.toNat_ofNat, Nat.mod_eq_of_lt (show k < 2 ^ 64 by omega), Nat.shiftLeft_eq, Nat.mul_mod, Nat.mod_mod, ← Nat.mul_mod]
theorem wb_and {a b : Nat} (ha : a < 2 ^ 64) (hb : b < 2 ^ 64) : lN a &&& lN b = lN (a &&& b) := by
  apply wb_inj
  rw [Int64.toBitVec_and, wb_tb, wb_tb, wb_tb]
  apply BitVec.eq_of_toNat_eq
  rw [BitVec.toNat_and, BitVec.toNat_ofNat, BitVec.toNat_ofNat, BitVec.toNat_ofNat, Nat.mod_eq_of_lt ha, Nat.mod_eq_of_lt hb, Nat.mod_eq_of_lt (Nat.and_lt_two_pow _ hb)]
theorem wb_or {a b : Nat} (ha : a < 2 ^ 64) (hb : b < 2 ^ 64) : lN a ||| lN b = lN (a ||| b) := by
  apply wb_inj
  rw [Int64.toBitVec_or, wb_tb, wb_tb, wb_tb]
  apply BitVec.eq_of_toNat_eq
  rw [BitVec.toNat_or, BitVec.toNat_ofNat, BitVec.toNat_ofNat, BitVec.toNat_ofNat, Nat.mod_eq_of_lt ha, Nat.mod_eq_of_lt hb, Nat.mod_eq_of_lt (Nat.or_lt_two_pow ha hb)]
/-! rows on masks (own) -/
theorem bx_and {a b : Nat} (ha : a < 2 ^ 64) (hb : b < 2 ^ 64) : Int64.ofInt ((a : Nat) : Int) &&& Int64.ofInt ((b : Nat) : Int) = Int64.ofInt ((a &&& b : Nat) : Int) := wb_and ha hb
theorem bx_or {a b : Nat} (ha : a < 2 ^ 64) (hb : b < 2 ^ 64) : Int64.ofInt ((a : Nat) : Int) ||| Int64.ofInt ((b : Nat) : Int) = Int64.ofInt ((a ||| b : Nat) : Int) := wb_or ha hb
theorem bx_shl {k : Nat} (hk : k < 64) : Int64.ofInt 1 <<< ((Int32.ofInt ((k : Nat) : Int)).toInt64 &&& 63) = Int64.ofInt ((2 ^ k : Nat) : Int) := by
  have h := wb_shl 1 hk
  rw [Nat.one_mul] at h
  exact h
theorem bx_shr {n k : Nat} (hn : n < 2 ^ 64) (hk : k < 64) : ((Int64.ofInt ((n : Nat) : Int)).toUInt64 >>> ((Int32.ofInt ((k : Nat) : Int)).toInt64.toUInt64 &&& Int64.toUInt64 63)).toInt64 = Int64.ofInt ((n / 2 ^ k : Nat) : Int) := wb_shr hn hk
theorem bx_or32 {a b : Nat} (ha : a < 2 ^ 32) (hb : b < 2 ^ 32) : Int32.ofInt ((a : Nat) : Int) ||| Int32.ofInt ((b : Nat) : Int) = Int32.ofInt ((a ||| b : Nat) : Int) := by
  apply Int32.toBitVec_inj.mp
  show BitVec.ofNat 32 a ||| BitVec.ofNat 32 b = BitVec.ofNat 32 (a ||| b)
  apply BitVec.eq_of_toNat_eq
  rw [BitVec.toNat_or, BitVec.toNat_ofNat, BitVec.toNat_ofNat, BitVec.toNat_ofNat, Nat.mod_eq_of_lt ha, Nat.mod_eq_of_lt hb, Nat.mod_eq_of_lt (Nat.or_lt_two_pow ha hb)]
theorem bx_shl32 : ∀ k, k < 12 → Int32.ofInt 1 <<< (Int32.ofInt ((k : Nat) : Int) &&& 31) = Int32.ofInt ((2 ^ k : Nat) : Int) := by decide +kernel
theorem bit0 (M p : Nat) : M &&& 2 ^ p = 0 ↔ ¬ M.testBit p = true := by
  constructor
  · intro h hb
    have e : (M &&& 2 ^ p).testBit p = true := by rw [Nat.testBit_and, hb, Nat.testBit_two_pow]; simp
    rw [h] at e
    simp at e
  · intro h
    apply Nat.eq_of_testBit_eq
    intro i
    rw [Nat.testBit_and, Nat.testBit_two_pow, Nat.zero_testBit]
    by_cases e : p = i
    · subst e; rw [Bool.eq_false_iff.mpr h]; rfl
    · simp [e]
section ZB
variable {K : zC} {D : va_G} {cl : List vw_C} {A : Nat → Prop} {tys : List (ClassId × FieldType)} {F : State → Prop} {rm : Room} {cc : ByteArray} {own nm : String} {Ts : List Cond} {nL : Nat} {ret : Option FieldType} {Q : State → Prop} {cells slots pc : Nat} {σ : zh} {lv : List (Option Value)} {st : List Value}
theorem z_bshl (C : zCx K D cl A tys F rm cc own nm Ts nL ret) {x : Int} (k : Nat) (hx : x = (k : Int)) (hk : k < 64) (hd : decode cc pc = .ok (.lshl, 1)) (kk : zJ K D cl A nL Q cells slots σ (pc + 1) lv (jv ((2 ^ k : Nat) : Int) :: st)) : zJ K D cl A nL Q cells slots σ pc lv (iv x :: jv 1 :: st) := by
  subst hx
  refine z_lshl C hd ?_
  rw [bx_shl hk]
  exact kk
theorem z_band (C : zCx K D cl A tys F rm cc own nm Ts nL ret) {a b : Nat} (ha : a < 2 ^ 64) (hb : b < 2 ^ 64) (hd : decode cc pc = .ok (.land, 1)) (kk : zJ K D cl A nL Q cells slots σ (pc + 1) lv (jv ((a &&& b : Nat) : Int) :: st)) : zJ K D cl A nL Q cells slots σ pc lv (jv ((b : Nat) : Int) :: jv ((a : Nat) : Int) :: st) := by
  refine z_land C hd ?_
  rw [bx_and ha hb]
  exact kk
theorem z_bor (C : zCx K D cl A tys F rm cc own nm Ts nL ret) {a b : Nat} (ha : a < 2 ^ 64) (hb : b < 2 ^ 64) (hd : decode cc pc = .ok (.lor, 1)) (kk : zJ K D cl A nL Q cells slots σ (pc + 1) lv (jv ((a ||| b : Nat) : Int) :: st)) : zJ K D cl A nL Q cells slots σ pc lv (jv ((b : Nat) : Int) :: jv ((a : Nat) : Int) :: st) := by
  refine z_lor C hd ?_
  rw [bx_or ha hb]
  exact kk
theorem z_bushr (C : zCx K D cl A tys F rm cc own nm Ts nL ret) {a : Nat} {x : Int} (k : Nat) (hx : x = (k : Int)) (ha : a < 2 ^ 64) (hk : k < 64) (hd : decode cc pc = .ok (.lushr, 1)) (kk : zJ K D cl A nL Q cells slots σ (pc + 1) lv (jv ((a / 2 ^ k : Nat) : Int) :: st)) : zJ K D cl A nL Q cells slots σ pc lv (iv x :: jv ((a : Nat) : Int) :: st) := by
  subst hx
  refine z_lushr C hd ?_
  rw [bx_shr ha hk]
  exact kk
theorem z_bior (C : zCx K D cl A tys F rm cc own nm Ts nL ret) {a b : Nat} (ha : a < 2 ^ 32) (hb : b < 2 ^ 32) (hd : decode cc pc = .ok (.ior, 1)) (kk : zJ K D cl A nL Q cells slots σ (pc + 1) lv (iv ((a ||| b : Nat) : Int) :: st)) : zJ K D cl A nL Q cells slots σ pc lv (iv ((b : Nat) : Int) :: iv ((a : Nat) : Int) :: st) := by
  refine z_ior C hd ?_
  rw [bx_or32 ha hb]
  exact kk
theorem z_bishl (C : zCx K D cl A tys F rm cc own nm Ts nL ret) {x : Int} (k : Nat) (hx : x = (k : Int)) (hk : k < 12) (hd : decode cc pc = .ok (.ishl, 1)) (kk : zJ K D cl A nL Q cells slots σ (pc + 1) lv (iv ((2 ^ k : Nat) : Int) :: st)) : zJ K D cl A nL Q cells slots σ pc lv (iv x :: iv 1 :: st) := by
  subst hx
  refine z_ishl C hd ?_
  rw [bx_shl32 k hk]
  exact kk
end ZB
def ksm (M : Nat) : Nat → Nat
  | 0 => 0
  | n + 1 => if M.testBit n = true then ksm M n ||| 2 ^ (n % 12) else ksm M n
theorem ksm_lt (M : Nat) : ∀ n, ksm M n < 2 ^ 12
  | 0 => by show 0 < 2 ^ 12; decide
  | n + 1 => by
    show (if M.testBit n = true then ksm M n ||| 2 ^ (n % 12) else ksm M n) < 2 ^ 12
    split
    · exact Nat.or_lt_two_pow (ksm_lt M n) (Nat.pow_lt_pow_right (by omega) (Nat.mod_lt _ (by omega)))
    · exact ksm_lt M n
theorem mrun_s (s : St) (k M : Nat) : mrun s (k + 1) 0 M = mstep s (mrun s k 0 M) (k % 36) := by
  rw [mrun_add, Nat.zero_add]
  rfl
end
section
/-! the reference's constructor: array by array -/
def z0 : St := fun _ _ => 0
def s00 : St := sup (sup z0 1 0 1) 0 0 (-1)
def nup (ad : Nat → Nat) (f q : Nat) : Nat → Nat := fun g => if g = f then q else ad g
theorem nup_s (ad : Nat → Nat) (f q : Nat) : nup ad f q f = q := by simp [nup]
theorem nup_n {ad : Nat → Nat} {f q g : Nat} (h : g ≠ f) : nup ad f q g = ad g := by simp [nup, h]
def RI (cI cZ cJ : ClassId) (d : Nat → Bool) (m0 : Nat) (ad : Nat → Nat) (fs : List Value) (σ0 σ : zh) : Prop := σ m0 = some (ob 3 fs) ∧ fs.length = 28 ∧ (∀ f, d f = true → σ (ad f) = some (mcell cI cZ cJ f z0) ∧ (∀ a e, σ0 a = some e → a ≠ ad f)) ∧ (∀ f g, d f = true → d g = true → ad f = ad g → f = g) ∧ ∀ a e, σ0 a = some e → a ≠ m0 → σ a = some e
def dadd (d : Nat → Bool) (f : Nat) : Nat → Bool := fun g => g == f || d g
theorem RI.new {cI cZ cJ : ClassId} {d : Nat → Bool} {m0 : Nat} {ad : Nat → Nat} {fs : List Value} {σ0 σ : zh} (h : RI cI cZ cJ d m0 ad fs σ0 σ) (h0 : ∃ e, σ0 m0 = some e) {f q : Nat} (hf : d f = false) (hq : ∀ (b : Nat) (x : va_E), σ b = some x → b ≠ q) : RI cI cZ cJ (dadd d f) m0 (nup ad f q) (fs.set f (.ref q)) σ0 (zput (zput σ q (mcell cI cZ cJ f z0)) m0 (ob 3 (fs.set f (.ref q)))) := by
  obtain ⟨h1, h2, h3, h4, h5⟩ := h
  have hm : m0 ≠ q := hq _ _ h1
  have old : ∀ g, d g = true → g ≠ f := fun g hg e => by rw [e, hf] at hg; cases hg
  have adm : ∀ g, d g = true → ad g ≠ m0 := fun g hg e => by
    obtain ⟨x, hx⟩ := mcell_arr cI cZ cJ g z0
    have h6 := (h3 g hg).1
    rw [e, h1, hx] at h6
    cases h6
  have key : ∀ g, dadd d f g = true → g = f ∨ (g ≠ f ∧ d g = true) := fun g hg => by
    unfold dadd at hg
    rw [Bool.or_eq_true, beq_iff_eq] at hg
    rcases hg with e | e
    · exact Or.inl e
    · exact Or.inr ⟨old g e, e⟩
  refine ⟨zput_s _ _ _, by simp [h2], fun g hg => ?_, fun a b ha hb e => ?_, fun a e ha hne => ?_⟩
  · rcases key g hg with rfl | ⟨hne, hg⟩
    · rw [nup_s, zput_n (Ne.symm hm), zput_s]
      refine ⟨rfl, fun a e ha z => ?_⟩
      subst z
      by_cases c : a = m0
      · exact hm c.symm
      · exact hq _ _ (h5 a e ha c) rfl
    · rw [nup_n hne, zput_n (adm g hg), zput_n (hq _ _ (h3 g hg).1)]
      exact h3 g hg
  · rcases key a ha with rfl | ⟨na, da⟩
    · rcases key b hb with rfl | ⟨nb, db⟩
      · rfl
      · rw [nup_s, nup_n nb] at e
        exact absurd e.symm (hq _ _ (h3 b db).1)
    · rcases key b hb with rfl | ⟨nb, db⟩
      · rw [nup_s, nup_n na] at e
        exact absurd e (hq _ _ (h3 a da).1)
      · rw [nup_n na, nup_n nb] at e
        exact h4 a b da db e
  · rw [zput_n hne, zput_n (hq _ _ (h5 a e ha hne))]
    exact h5 a e ha hne
theorem RI.setS {cI cZ cJ : ClassId} {d : Nat → Bool} {m0 : Nat} {ad : Nat → Nat} {fs : List Value} {σ0 σ : zh} (h : RI cI cZ cJ d m0 ad fs σ0 σ) (k : Nat) (v : Value) : RI cI cZ cJ d m0 ad (fs.set k v) σ0 (zput σ m0 (ob 3 (fs.set k v))) := by
  obtain ⟨h1, h2, h3, h4, h5⟩ := h
  refine ⟨zput_s _ _ _, by simp [h2], fun g hg => ?_, h4, fun a e ha hne => ?_⟩
  · rw [zput_n (fun z => ?_)]
    · exact h3 g hg
    · obtain ⟨x, hx⟩ := mcell_arr cI cZ cJ g z0
      have h6 := (h3 g hg).1
      rw [z, h1, hx] at h6
      cases h6
  · rw [zput_n hne]; exact h5 a e ha hne
section MI0
variable {K : zC} {D : va_G} {A : Nat → Prop} {cI cZ cJ cB : ClassId} {F : State → Prop} {rm : Room} {cc : ByteArray} {nL : Nat} {ret : Option FieldType} {Q : State → Prop} {cells slots pc : Nat} {σ0 σ : zh} {lv : List (Option Value)} {m0 : Nat} {ad : Nat → Nat} {d : Nat → Bool} {fs : List Value}
theorem m_newi (C : zCx K D vwCl A (ztys cI cZ cJ cB) F rm cc "InjectorTreeModel" "<init>" zw nL ret) (hR : RI cI cZ cJ d m0 ad fs σ0 σ) (h0 : ∃ e, σ0 m0 = some e) {i : Int} {index : Nat} {ty : FieldType} (f n : Nat) (hf : f < 28) (hdf : d f = false) (hi : i = (n : Int)) (hn : n ≤ 1000000) (hc : mcell cI cZ cJ f z0 = ia cI n (fun _ => 0)) (hcs : cells + 1 ≤ rm.cells) (hss : slots + n ≤ rm.slots) (hd : decode cc pc = .ok (.newarray .int, 2)) (hl : Cond.fieldLink "InjectorTreeModel" index "InjectorTreeModel" (T_M f).2.1 (T_M f).2.2.1 ∈ zw) (hr : (T_M f).1 = "InjectorTreeModel") (hfin : (T_M f).2.2.2 = true) (hd9 : parseFieldDescriptor (T_M f).2.2.1 = some ty) (hnn : ∀ q, narrow ty (.ref q) = .ref q) (hfit : ∀ q, fits ty (.ref q) = true) (hd2 : decode cc (pc + 2) = .ok (.putfield index, 3))
    (kk : ∀ (q : Nat) (σ' : zh), RI cI cZ cJ (dadd d f) m0 (nup ad f q) (fs.set f (.ref q)) σ0 σ' → zJ K D vwCl A nL Q (cells + 1) (slots + n) σ' (pc + 5) lv []) : zJ K D vwCl A nL Q cells slots σ pc lv [iv i, .ref m0] := by
  refine z_newi C 0 rfl tw_ac_int rfl n hi hn hcs hss hd (fun q hq => ?_)
  have hne : m0 ≠ q := hq _ _ hR.1
  have hX : zput σ q (ia cI n (fun _ => 0)) m0 = some (ob 3 fs) := by rw [zput_n hne]; exact hR.1
  refine z_putF C in_M t_M tk_M nm_M hX rfl f hf hl hr hfin rfl hd9 (hnn q) (hfit q) (by rw [hR.2.1]; exact hf) hd2 ?_
  rw [← hc]
  exact kk q _ (hR.new h0 hdf hq)
theorem m_newz (C : zCx K D vwCl A (ztys cI cZ cJ cB) F rm cc "InjectorTreeModel" "<init>" zw nL ret) (hR : RI cI cZ cJ d m0 ad fs σ0 σ) (h0 : ∃ e, σ0 m0 = some e) {i : Int} {index : Nat} {ty : FieldType} (f n : Nat) (hf : f < 28) (hdf : d f = false) (hi : i = (n : Int)) (hn : n ≤ 1000000) (hc : mcell cI cZ cJ f z0 = ia cZ n (fun _ => 0)) (hcs : cells + 1 ≤ rm.cells) (hss : slots + n ≤ rm.slots) (hd : decode cc pc = .ok (.newarray .boolean, 2)) (hl : Cond.fieldLink "InjectorTreeModel" index "InjectorTreeModel" (T_M f).2.1 (T_M f).2.2.1 ∈ zw) (hr : (T_M f).1 = "InjectorTreeModel") (hfin : (T_M f).2.2.2 = true) (hd9 : parseFieldDescriptor (T_M f).2.2.1 = some ty) (hnn : ∀ q, narrow ty (.ref q) = .ref q) (hfit : ∀ q, fits ty (.ref q) = true) (hd2 : decode cc (pc + 2) = .ok (.putfield index, 3))
    (kk : ∀ (q : Nat) (σ' : zh), RI cI cZ cJ (dadd d f) m0 (nup ad f q) (fs.set f (.ref q)) σ0 σ' → zJ K D vwCl A nL Q (cells + 1) (slots + n) σ' (pc + 5) lv []) : zJ K D vwCl A nL Q cells slots σ pc lv [iv i, .ref m0] := by
  refine z_newz C 1 rfl tw_ac_boolean rfl n hi hn hcs hss hd (fun q hq => ?_)
  have hne : m0 ≠ q := hq _ _ hR.1
  have hX : zput σ q (ia cZ n (fun _ => 0)) m0 = some (ob 3 fs) := by rw [zput_n hne]; exact hR.1
  refine z_putF C in_M t_M tk_M nm_M hX rfl f hf hl hr hfin rfl hd9 (hnn q) (hfit q) (by rw [hR.2.1]; exact hf) hd2 ?_
  rw [← hc]
  exact kk q _ (hR.new h0 hdf hq)
theorem m_newl (C : zCx K D vwCl A (ztys cI cZ cJ cB) F rm cc "InjectorTreeModel" "<init>" zw nL ret) (hR : RI cI cZ cJ d m0 ad fs σ0 σ) (h0 : ∃ e, σ0 m0 = some e) {i : Int} {index : Nat} {ty : FieldType} (f n : Nat) (hf : f < 28) (hdf : d f = false) (hi : i = (n : Int)) (hn : n ≤ 1000000) (hc : mcell cI cZ cJ f z0 = la cJ n (fun _ => 0)) (hcs : cells + 1 ≤ rm.cells) (hss : slots + n ≤ rm.slots) (hd : decode cc pc = .ok (.newarray .long, 2)) (hl : Cond.fieldLink "InjectorTreeModel" index "InjectorTreeModel" (T_M f).2.1 (T_M f).2.2.1 ∈ zw) (hr : (T_M f).1 = "InjectorTreeModel") (hfin : (T_M f).2.2.2 = true) (hd9 : parseFieldDescriptor (T_M f).2.2.1 = some ty) (hnn : ∀ q, narrow ty (.ref q) = .ref q) (hfit : ∀ q, fits ty (.ref q) = true) (hd2 : decode cc (pc + 2) = .ok (.putfield index, 3))
    (kk : ∀ (q : Nat) (σ' : zh), RI cI cZ cJ (dadd d f) m0 (nup ad f q) (fs.set f (.ref q)) σ0 σ' → zJ K D vwCl A nL Q (cells + 1) (slots + n) σ' (pc + 5) lv []) : zJ K D vwCl A nL Q cells slots σ pc lv [iv i, .ref m0] := by
  refine z_newl C 2 rfl tw_ac_long rfl n hi hn hcs hss hd (fun q hq => ?_)
  have hne : m0 ≠ q := hq _ _ hR.1
  have hX : zput σ q (la cJ n (fun _ => 0)) m0 = some (ob 3 fs) := by rw [zput_n hne]; exact hR.1
  refine z_putF C in_M t_M tk_M nm_M hX rfl f hf hl hr hfin rfl hd9 (hnn q) (hfit q) (by rw [hR.2.1]; exact hf) hd2 ?_
  rw [← hc]
  exact kk q _ (hR.new h0 hdf hq)
end MI0
set_option maxRecDepth 100000 in
set_option maxHeartbeats 4000000 in
theorem cM_init {l : Launch} {D : va_G} {A : Nat → Prop} {cI cZ cJ cB : ClassId} {F : State → Prop} {m0 : Nat} {σ : zh} (hF : zFok F A) (h0 : σ m0 = some (ob 3 [.null, .int 0, .null, .null, .int 0, .null, .null, .null, .null, .null, .null, .null, .null, .null, .null, .int 0, .null, .null, .null, .null, .null, .null, .null, .int 0, .null, .null, .null, .int 0])) : zM l D vwCl A (ztys cI cZ cJ cB) F y_M_init ws_M_init (zroom 1 23 2403) [.ref m0] σ (fun r σ' => r = none ∧ ∃ ad : Nat → Nat, RM cI cZ cJ m0 ad s00 σ' ∧ ∀ a e, σ a = some e → a ≠ m0 → σ' a = some e ∧ ¬ MA m0 ad a) := by
  refine zMet2 hF (by decide) (Nat.le_of_ble_eq_true rfl) (fun K hKl C => ?_)
  have hR : RI cI cZ cJ (fun _ => false) m0 (fun _ => 0) [.null, .int 0, .null, .null, .int 0, .null, .null, .null, .null, .null, .null, .null, .null, .null, .null, .int 0, .null, .null, .null, .null, .null, .null, .null, .int 0, .null, .null, .null, .int 0] σ σ := ⟨h0, rfl, fun _ h => (by cases h), fun _ _ h => (by cases h), fun _ _ h _ => h⟩
  have hex : ∃ e, σ m0 = some e := ⟨_, h0⟩
  refine z_aload_n C d_M_init_0 rfl ?_
  refine z_oinit C tw_ml_M_1 tw_im_oinit tw_co_oinit d_M_init_1 (by decide) (by decide) (Nat.le_of_ble_eq_true rfl) ?_
  refine z_aload_n C d_M_init_4 rfl ?_
  refine z_iconst C d_M_init_5 ?_
  refine m_newi C hR hex 0 3 (by decide) rfl rfl (by decide) rfl (by decide) (by decide) d_M_init_6 tw_fl_M_7 rfl rfl (tk_M 0 (by decide)) (fun _ => rfl) (fun _ => rfl) d_M_init_8 (fun q0 σ1 hR => ?_)
  have hR : RI cI cZ cJ _ m0 _ [.ref q0, .int 0, .null, .null, .int 0, .null, .null, .null, .null, .null, .null, .null, .null, .null, .null, .int 0, .null, .null, .null, .null, .null, .null, .null, .int 0, .null, .null, .null, .int 0] σ σ1 := hR
  refine z_aload_n C d_M_init_11 rfl ?_
  refine z_iconst C d_M_init_12 ?_
  refine z_put C in_M t_M tk_M nm_M hR.1 rfl 1 (by decide) tw_fl_M_13 rfl rfl (tk_M 1 (by decide)) rfl rfl (by rw [hR.2.1]; decide) d_M_init_13 ?_
  have hR := hR.setS 1 (iv 1)
  have hR : RI cI cZ cJ _ m0 _ [.ref q0, iv 1, .null, .null, .int 0, .null, .null, .null, .null, .null, .null, .null, .null, .null, .null, .int 0, .null, .null, .null, .null, .null, .null, .null, .int 0, .null, .null, .null, .int 0] σ (zput σ1 m0 (ob 3 [.ref q0, iv 1, .null, .null, .int 0, .null, .null, .null, .null, .null, .null, .null, .null, .null, .null, .int 0, .null, .null, .null, .null, .null, .null, .null, .int 0, .null, .null, .null, .int 0])) := hR
  refine z_aload_n C d_M_init_16 rfl ?_
  refine z_iconst C d_M_init_17 ?_
  refine m_newi C hR hex 2 4 (by decide) rfl rfl (by decide) rfl (by decide) (by decide) d_M_init_18 tw_fl_M_17 rfl rfl (tk_M 2 (by decide)) (fun _ => rfl) (fun _ => rfl) d_M_init_20 (fun q2 σ1 hR => ?_)
  have hR : RI cI cZ cJ _ m0 _ [.ref q0, iv 1, .ref q2, .null, .int 0, .null, .null, .null, .null, .null, .null, .null, .null, .null, .null, .int 0, .null, .null, .null, .null, .null, .null, .null, .int 0, .null, .null, .null, .int 0] σ σ1 := hR
  refine z_aload_n C d_M_init_23 rfl ?_
  refine z_iconst C d_M_init_24 ?_
  refine m_newz C hR hex 3 4 (by decide) rfl rfl (by decide) rfl (by decide) (by decide) d_M_init_25 tw_fl_M_20 rfl rfl (tk_M 3 (by decide)) (fun _ => rfl) (fun _ => rfl) d_M_init_27 (fun q3 σ1 hR => ?_)
  have hR : RI cI cZ cJ _ m0 _ [.ref q0, iv 1, .ref q2, .ref q3, .int 0, .null, .null, .null, .null, .null, .null, .null, .null, .null, .null, .int 0, .null, .null, .null, .null, .null, .null, .null, .int 0, .null, .null, .null, .int 0] σ σ1 := hR
  refine z_aload_n C d_M_init_30 rfl ?_
  refine z_bipush C d_M_init_31 (by decide) ?_
  refine m_newi C hR hex 5 36 (by decide) rfl rfl (by decide) rfl (by decide) (by decide) d_M_init_33 tw_fl_M_24 rfl rfl (tk_M 5 (by decide)) (fun _ => rfl) (fun _ => rfl) d_M_init_35 (fun q5 σ1 hR => ?_)
  have hR : RI cI cZ cJ _ m0 _ [.ref q0, iv 1, .ref q2, .ref q3, .int 0, .ref q5, .null, .null, .null, .null, .null, .null, .null, .null, .null, .int 0, .null, .null, .null, .null, .null, .null, .null, .int 0, .null, .null, .null, .int 0] σ σ1 := hR
  refine z_aload_n C d_M_init_38 rfl ?_
  refine z_bipush C d_M_init_39 (by decide) ?_
  refine m_newi C hR hex 6 36 (by decide) rfl rfl (by decide) rfl (by decide) (by decide) d_M_init_41 tw_fl_M_27 rfl rfl (tk_M 6 (by decide)) (fun _ => rfl) (fun _ => rfl) d_M_init_43 (fun q6 σ1 hR => ?_)
  have hR : RI cI cZ cJ _ m0 _ [.ref q0, iv 1, .ref q2, .ref q3, .int 0, .ref q5, .ref q6, .null, .null, .null, .null, .null, .null, .null, .null, .int 0, .null, .null, .null, .null, .null, .null, .null, .int 0, .null, .null, .null, .int 0] σ σ1 := hR
  refine z_aload_n C d_M_init_46 rfl ?_
  refine z_bipush C d_M_init_47 (by decide) ?_
  refine m_newi C hR hex 7 36 (by decide) rfl rfl (by decide) rfl (by decide) (by decide) d_M_init_49 tw_fl_M_30 rfl rfl (tk_M 7 (by decide)) (fun _ => rfl) (fun _ => rfl) d_M_init_51 (fun q7 σ1 hR => ?_)
  have hR : RI cI cZ cJ _ m0 _ [.ref q0, iv 1, .ref q2, .ref q3, .int 0, .ref q5, .ref q6, .ref q7, .null, .null, .null, .null, .null, .null, .null, .int 0, .null, .null, .null, .null, .null, .null, .null, .int 0, .null, .null, .null, .int 0] σ σ1 := hR
  refine z_aload_n C d_M_init_54 rfl ?_
  refine z_bipush C d_M_init_55 (by decide) ?_
  refine m_newi C hR hex 8 36 (by decide) rfl rfl (by decide) rfl (by decide) (by decide) d_M_init_57 tw_fl_M_33 rfl rfl (tk_M 8 (by decide)) (fun _ => rfl) (fun _ => rfl) d_M_init_59 (fun q8 σ1 hR => ?_)
  have hR : RI cI cZ cJ _ m0 _ [.ref q0, iv 1, .ref q2, .ref q3, .int 0, .ref q5, .ref q6, .ref q7, .ref q8, .null, .null, .null, .null, .null, .null, .int 0, .null, .null, .null, .null, .null, .null, .null, .int 0, .null, .null, .null, .int 0] σ σ1 := hR
  refine z_aload_n C d_M_init_62 rfl ?_
  refine z_sipush C d_M_init_63 (by decide) ?_
  refine m_newi C hR hex 9 144 (by decide) rfl rfl (by decide) rfl (by decide) (by decide) d_M_init_66 tw_fl_M_36 rfl rfl (tk_M 9 (by decide)) (fun _ => rfl) (fun _ => rfl) d_M_init_68 (fun q9 σ1 hR => ?_)
  have hR : RI cI cZ cJ _ m0 _ [.ref q0, iv 1, .ref q2, .ref q3, .int 0, .ref q5, .ref q6, .ref q7, .ref q8, .ref q9, .null, .null, .null, .null, .null, .int 0, .null, .null, .null, .null, .null, .null, .null, .int 0, .null, .null, .null, .int 0] σ σ1 := hR
  refine z_aload_n C d_M_init_71 rfl ?_
  refine z_sipush C d_M_init_72 (by decide) ?_
  refine m_newz C hR hex 10 144 (by decide) rfl rfl (by decide) rfl (by decide) (by decide) d_M_init_75 tw_fl_M_39 rfl rfl (tk_M 10 (by decide)) (fun _ => rfl) (fun _ => rfl) d_M_init_77 (fun q10 σ1 hR => ?_)
  have hR : RI cI cZ cJ _ m0 _ [.ref q0, iv 1, .ref q2, .ref q3, .int 0, .ref q5, .ref q6, .ref q7, .ref q8, .ref q9, .ref q10, .null, .null, .null, .null, .int 0, .null, .null, .null, .null, .null, .null, .null, .int 0, .null, .null, .null, .int 0] σ σ1 := hR
  refine z_aload_n C d_M_init_80 rfl ?_
  refine z_bipush C d_M_init_81 (by decide) ?_
  refine m_newi C hR hex 11 36 (by decide) rfl rfl (by decide) rfl (by decide) (by decide) d_M_init_83 tw_fl_M_42 rfl rfl (tk_M 11 (by decide)) (fun _ => rfl) (fun _ => rfl) d_M_init_85 (fun q11 σ1 hR => ?_)
  have hR : RI cI cZ cJ _ m0 _ [.ref q0, iv 1, .ref q2, .ref q3, .int 0, .ref q5, .ref q6, .ref q7, .ref q8, .ref q9, .ref q10, .ref q11, .null, .null, .null, .int 0, .null, .null, .null, .null, .null, .null, .null, .int 0, .null, .null, .null, .int 0] σ σ1 := hR
  refine z_aload_n C d_M_init_88 rfl ?_
  refine z_bipush C d_M_init_89 (by decide) ?_
  refine m_newi C hR hex 12 36 (by decide) rfl rfl (by decide) rfl (by decide) (by decide) d_M_init_91 tw_fl_M_45 rfl rfl (tk_M 12 (by decide)) (fun _ => rfl) (fun _ => rfl) d_M_init_93 (fun q12 σ1 hR => ?_)
  have hR : RI cI cZ cJ _ m0 _ [.ref q0, iv 1, .ref q2, .ref q3, .int 0, .ref q5, .ref q6, .ref q7, .ref q8, .ref q9, .ref q10, .ref q11, .ref q12, .null, .null, .int 0, .null, .null, .null, .null, .null, .null, .null, .int 0, .null, .null, .null, .int 0] σ σ1 := hR
  refine z_aload_n C d_M_init_96 rfl ?_
  refine z_bipush C d_M_init_97 (by decide) ?_
  refine m_newi C hR hex 13 36 (by decide) rfl rfl (by decide) rfl (by decide) (by decide) d_M_init_99 tw_fl_M_48 rfl rfl (tk_M 13 (by decide)) (fun _ => rfl) (fun _ => rfl) d_M_init_101 (fun q13 σ1 hR => ?_)
  have hR : RI cI cZ cJ _ m0 _ [.ref q0, iv 1, .ref q2, .ref q3, .int 0, .ref q5, .ref q6, .ref q7, .ref q8, .ref q9, .ref q10, .ref q11, .ref q12, .ref q13, .null, .int 0, .null, .null, .null, .null, .null, .null, .null, .int 0, .null, .null, .null, .int 0] σ σ1 := hR
  refine z_aload_n C d_M_init_104 rfl ?_
  refine z_bipush C d_M_init_105 (by decide) ?_
  refine m_newi C hR hex 14 36 (by decide) rfl rfl (by decide) rfl (by decide) (by decide) d_M_init_107 tw_fl_M_51 rfl rfl (tk_M 14 (by decide)) (fun _ => rfl) (fun _ => rfl) d_M_init_109 (fun q14 σ1 hR => ?_)
  have hR : RI cI cZ cJ _ m0 _ [.ref q0, iv 1, .ref q2, .ref q3, .int 0, .ref q5, .ref q6, .ref q7, .ref q8, .ref q9, .ref q10, .ref q11, .ref q12, .ref q13, .ref q14, .int 0, .null, .null, .null, .null, .null, .null, .null, .int 0, .null, .null, .null, .int 0] σ σ1 := hR
  refine z_aload_n C d_M_init_112 rfl ?_
  refine z_bipush C d_M_init_113 (by decide) ?_
  refine m_newi C hR hex 16 100 (by decide) rfl rfl (by decide) rfl (by decide) (by decide) d_M_init_115 tw_fl_M_54 rfl rfl (tk_M 16 (by decide)) (fun _ => rfl) (fun _ => rfl) d_M_init_117 (fun q16 σ1 hR => ?_)
  have hR : RI cI cZ cJ _ m0 _ [.ref q0, iv 1, .ref q2, .ref q3, .int 0, .ref q5, .ref q6, .ref q7, .ref q8, .ref q9, .ref q10, .ref q11, .ref q12, .ref q13, .ref q14, .int 0, .ref q16, .null, .null, .null, .null, .null, .null, .int 0, .null, .null, .null, .int 0] σ σ1 := hR
  refine z_aload_n C d_M_init_120 rfl ?_
  refine z_bipush C d_M_init_121 (by decide) ?_
  refine m_newi C hR hex 17 100 (by decide) rfl rfl (by decide) rfl (by decide) (by decide) d_M_init_123 tw_fl_M_57 rfl rfl (tk_M 17 (by decide)) (fun _ => rfl) (fun _ => rfl) d_M_init_125 (fun q17 σ1 hR => ?_)
  have hR : RI cI cZ cJ _ m0 _ [.ref q0, iv 1, .ref q2, .ref q3, .int 0, .ref q5, .ref q6, .ref q7, .ref q8, .ref q9, .ref q10, .ref q11, .ref q12, .ref q13, .ref q14, .int 0, .ref q16, .ref q17, .null, .null, .null, .null, .null, .int 0, .null, .null, .null, .int 0] σ σ1 := hR
  refine z_aload_n C d_M_init_128 rfl ?_
  refine z_bipush C d_M_init_129 (by decide) ?_
  refine m_newi C hR hex 18 100 (by decide) rfl rfl (by decide) rfl (by decide) (by decide) d_M_init_131 tw_fl_M_60 rfl rfl (tk_M 18 (by decide)) (fun _ => rfl) (fun _ => rfl) d_M_init_133 (fun q18 σ1 hR => ?_)
  have hR : RI cI cZ cJ _ m0 _ [.ref q0, iv 1, .ref q2, .ref q3, .int 0, .ref q5, .ref q6, .ref q7, .ref q8, .ref q9, .ref q10, .ref q11, .ref q12, .ref q13, .ref q14, .int 0, .ref q16, .ref q17, .ref q18, .null, .null, .null, .null, .int 0, .null, .null, .null, .int 0] σ σ1 := hR
  refine z_aload_n C d_M_init_136 rfl ?_
  refine z_bipush C d_M_init_137 (by decide) ?_
  refine m_newi C hR hex 19 100 (by decide) rfl rfl (by decide) rfl (by decide) (by decide) d_M_init_139 tw_fl_M_63 rfl rfl (tk_M 19 (by decide)) (fun _ => rfl) (fun _ => rfl) d_M_init_141 (fun q19 σ1 hR => ?_)
  have hR : RI cI cZ cJ _ m0 _ [.ref q0, iv 1, .ref q2, .ref q3, .int 0, .ref q5, .ref q6, .ref q7, .ref q8, .ref q9, .ref q10, .ref q11, .ref q12, .ref q13, .ref q14, .int 0, .ref q16, .ref q17, .ref q18, .ref q19, .null, .null, .null, .int 0, .null, .null, .null, .int 0] σ σ1 := hR
  refine z_aload_n C d_M_init_144 rfl ?_
  refine z_sipush C d_M_init_145 (by decide) ?_
  refine m_newi C hR hex 20 400 (by decide) rfl rfl (by decide) rfl (by decide) (by decide) d_M_init_148 tw_fl_M_66 rfl rfl (tk_M 20 (by decide)) (fun _ => rfl) (fun _ => rfl) d_M_init_150 (fun q20 σ1 hR => ?_)
  have hR : RI cI cZ cJ _ m0 _ [.ref q0, iv 1, .ref q2, .ref q3, .int 0, .ref q5, .ref q6, .ref q7, .ref q8, .ref q9, .ref q10, .ref q11, .ref q12, .ref q13, .ref q14, .int 0, .ref q16, .ref q17, .ref q18, .ref q19, .ref q20, .null, .null, .int 0, .null, .null, .null, .int 0] σ σ1 := hR
  refine z_aload_n C d_M_init_153 rfl ?_
  refine z_sipush C d_M_init_154 (by decide) ?_
  refine m_newz C hR hex 21 400 (by decide) rfl rfl (by decide) rfl (by decide) (by decide) d_M_init_157 tw_fl_M_69 rfl rfl (tk_M 21 (by decide)) (fun _ => rfl) (fun _ => rfl) d_M_init_159 (fun q21 σ1 hR => ?_)
  have hR : RI cI cZ cJ _ m0 _ [.ref q0, iv 1, .ref q2, .ref q3, .int 0, .ref q5, .ref q6, .ref q7, .ref q8, .ref q9, .ref q10, .ref q11, .ref q12, .ref q13, .ref q14, .int 0, .ref q16, .ref q17, .ref q18, .ref q19, .ref q20, .ref q21, .null, .int 0, .null, .null, .null, .int 0] σ σ1 := hR
  refine z_aload_n C d_M_init_162 rfl ?_
  refine z_sipush C d_M_init_163 (by decide) ?_
  refine m_newl C hR hex 22 400 (by decide) rfl rfl (by decide) rfl (by decide) (by decide) d_M_init_166 tw_fl_M_72 rfl rfl (tk_M 22 (by decide)) (fun _ => rfl) (fun _ => rfl) d_M_init_168 (fun q22 σ1 hR => ?_)
  have hR : RI cI cZ cJ _ m0 _ [.ref q0, iv 1, .ref q2, .ref q3, .int 0, .ref q5, .ref q6, .ref q7, .ref q8, .ref q9, .ref q10, .ref q11, .ref q12, .ref q13, .ref q14, .int 0, .ref q16, .ref q17, .ref q18, .ref q19, .ref q20, .ref q21, .ref q22, .int 0, .null, .null, .null, .int 0] σ σ1 := hR
  refine z_aload_n C d_M_init_171 rfl ?_
  refine z_bipush C d_M_init_172 (by decide) ?_
  refine m_newi C hR hex 24 36 (by decide) rfl rfl (by decide) rfl (by decide) (by decide) d_M_init_174 tw_fl_M_76 rfl rfl (tk_M 24 (by decide)) (fun _ => rfl) (fun _ => rfl) d_M_init_176 (fun q24 σ1 hR => ?_)
  have hR : RI cI cZ cJ _ m0 _ [.ref q0, iv 1, .ref q2, .ref q3, .int 0, .ref q5, .ref q6, .ref q7, .ref q8, .ref q9, .ref q10, .ref q11, .ref q12, .ref q13, .ref q14, .int 0, .ref q16, .ref q17, .ref q18, .ref q19, .ref q20, .ref q21, .ref q22, .int 0, .ref q24, .null, .null, .int 0] σ σ1 := hR
  refine z_aload_n C d_M_init_179 rfl ?_
  refine z_bipush C d_M_init_180 (by decide) ?_
  refine m_newi C hR hex 25 36 (by decide) rfl rfl (by decide) rfl (by decide) (by decide) d_M_init_182 tw_fl_M_79 rfl rfl (tk_M 25 (by decide)) (fun _ => rfl) (fun _ => rfl) d_M_init_184 (fun q25 σ1 hR => ?_)
  have hR : RI cI cZ cJ _ m0 _ [.ref q0, iv 1, .ref q2, .ref q3, .int 0, .ref q5, .ref q6, .ref q7, .ref q8, .ref q9, .ref q10, .ref q11, .ref q12, .ref q13, .ref q14, .int 0, .ref q16, .ref q17, .ref q18, .ref q19, .ref q20, .ref q21, .ref q22, .int 0, .ref q24, .ref q25, .null, .int 0] σ σ1 := hR
  refine z_aload_n C d_M_init_187 rfl ?_
  refine z_sipush C d_M_init_188 (by decide) ?_
  refine m_newl C hR hex 26 144 (by decide) rfl rfl (by decide) rfl (by decide) (by decide) d_M_init_191 tw_fl_M_82 rfl rfl (tk_M 26 (by decide)) (fun _ => rfl) (fun _ => rfl) d_M_init_193 (fun q26 σ1 hR => ?_)
  have hR : RI cI cZ cJ _ m0 _ [.ref q0, iv 1, .ref q2, .ref q3, .int 0, .ref q5, .ref q6, .ref q7, .ref q8, .ref q9, .ref q10, .ref q11, .ref q12, .ref q13, .ref q14, .int 0, .ref q16, .ref q17, .ref q18, .ref q19, .ref q20, .ref q21, .ref q22, .int 0, .ref q24, .ref q25, .ref q26, .int 0] σ σ1 := hR
  have hall : ∀ f, marr f = true → (dadd (dadd (dadd (dadd (dadd (dadd (dadd (dadd (dadd (dadd (dadd (dadd (dadd (dadd (dadd (dadd (dadd (dadd (dadd (dadd (dadd (dadd (dadd (fun _ => false) 0) 2) 3) 5) 6) 7) 8) 9) 10) 11) 12) 13) 14) 16) 17) 18) 19) 20) 21) 22) 24) 25) 26) f = true := by
    intro f hf
    have hlt : f < 28 := by
      unfold marr at hf
      rw [Bool.and_eq_true, decide_eq_true_eq] at hf
      exact hf.2
    have hdec : ∀ f, f < 28 → marr f = true → (dadd (dadd (dadd (dadd (dadd (dadd (dadd (dadd (dadd (dadd (dadd (dadd (dadd (dadd (dadd (dadd (dadd (dadd (dadd (dadd (dadd (dadd (dadd (fun _ => false) 0) 2) 3) 5) 6) 7) 8) 9) 10) 11) 12) 13) 14) 16) 17) 18) 19) 20) 21) 22) 24) 25) 26) f = true := by decide
    exact hdec f hlt hf
  generalize hade : (nup (nup (nup (nup (nup (nup (nup (nup (nup (nup (nup (nup (nup (nup (nup (nup (nup (nup (nup (nup (nup (nup (nup (fun _ => 0) 0 q0) 2 q2) 3 q3) 5 q5) 6 q6) 7 q7) 8 q8) 9 q9) 10 q10) 11 q11) 12 q12) 13 q13) 14 q14) 16 q16) 17 q17) 18 q18) 19 q19) 20 q20) 21 q21) 22 q22) 24 q24) 25 q25) 26 q26) = ad at hR
  generalize hdde : (dadd (dadd (dadd (dadd (dadd (dadd (dadd (dadd (dadd (dadd (dadd (dadd (dadd (dadd (dadd (dadd (dadd (dadd (dadd (dadd (dadd (dadd (dadd (fun _ => false) 0) 2) 3) 5) 6) 7) 8) 9) 10) 11) 12) 13) 14) 16) 17) 18) 19) 20) 21) 22) 24) 25) 26) = dd at hR hall
  have hfs : mfs ad (sup z0 1 0 1) = [.ref q0, iv 1, .ref q2, .ref q3, .int 0, .ref q5, .ref q6, .ref q7, .ref q8, .ref q9, .ref q10, .ref q11, .ref q12, .ref q13, .ref q14, .int 0, .ref q16, .ref q17, .ref q18, .ref q19, .ref q20, .ref q21, .ref q22, .int 0, .ref q24, .ref q25, .ref q26, .int 0] := by
    subst hade
    rfl
  have hM : RM cI cZ cJ m0 ad (sup z0 1 0 1) σ1 := by
    refine ⟨?_, fun f hf => ?_, fun f g hf hg e => hR.2.2.2.1 f g (hall f hf) (hall g hg) e⟩
    · rw [hfs]
      exact hR.1
    · rw [mcell_n cI cZ cJ z0 0 1 (show f ≠ 1 from by rintro rfl; cases hf)]
      exact (hR.2.2.1 f (hall f hf)).1
  have hfr : ∀ a e, σ a = some e → a ≠ m0 → σ1 a = some e ∧ ¬ MA m0 ad a := by
    intro a e ha hne
    refine ⟨hR.2.2.2.2 a e ha hne, fun z => ?_⟩
    rcases z with z | ⟨f, hf, z⟩
    · exact hne z
    · exact (hR.2.2.1 f (hall f hf)).2 a e ha z
  have hM := mR.rf hM
  refine z_aload_n C d_M_init_196 rfl ?_
  refine m_get C hM in_M 0 (by decide) tw_fl_M_7 rfl rfl d_M_init_197 ?_
  refine z_iconst C d_M_init_200 ?_
  refine z_iconst C d_M_init_201 ?_
  refine m_iast C hM 0 rfl (n := 3) (fun _ => rfl) (0) (by omega) (by omega) (by decide) d_M_init_202 (fun σ hM => ?_)
  exact z_vret C d_M_init_203 (by decide) (by decide) (⟨rfl, ad, hM.1, fun a e ha hne => ⟨by rw [hM.2 a (hfr a e ha hne).2]; exact (hfr a e ha hne).1, (hfr a e ha hne).2⟩⟩)
end
section
section MC1
variable {l : Launch} {D : va_G} {A : Nat → Prop} {cI cZ cJ cB : ClassId} {F : State → Prop} {m0 : Nat} {ad : Nat → Nat} {σ : zh} {s : St}
set_option maxRecDepth 100000 in
set_option maxHeartbeats 4000000 in
theorem cM_noPair (i k : Int) (hF : zFok F A) (hI : Inv s) (hM : RM cI cZ cJ m0 ad s σ) (ri : -2147483648 ≤ i ∧ i ≤ 2147483647) (rk : -2147483648 ≤ k ∧ k ≤ 2147483647) : zM l D vwCl A (ztys cI cZ cJ cB) F y_M_noPair ws_M_noPair (zroom 0 0 0) [.ref m0, iv i, iv k] σ (fun r σ' => σ' = σ ∧ ∃ b : Int, r = some (iv b) ∧ ((b = 1 ∧ (i < 0 ∨ s 1 0 ≤ i ∨ k < 0 ∨ 11 < k)) ∨ (b = 0 ∧ 0 ≤ i ∧ i < s 1 0 ∧ 0 ≤ k ∧ k ≤ 11))) := by
  refine zMet2 hF (by decide) (Nat.le_of_ble_eq_true rfl) (fun K hKl C => ?_)
  have hM := mR.rf hM
  have hinj := hI.inj
  refine z_iload_n C d_M_noPair_0 rfl ?_
  refine z_if_lt C 22 (by omega) d_M_noPair_1 (by decide) (fun h1 => ?_) (fun h1 => ?_)
  · refine z_iconst C d_M_noPair_22 ?_
    refine z_goto C 27 d_M_noPair_23 (by decide) ?_
    exact z_zret C d_M_noPair_27 (by decide) (by decide) (by omega) (⟨rfl, _, rfl, by omega⟩)
  · refine z_iload_n C d_M_noPair_4 rfl ?_
    refine z_aload_n C d_M_noPair_5 rfl ?_
    refine m_get C hM in_M 1 (by decide) tw_fl_M_13 rfl rfl d_M_noPair_6 ?_
    refine z_icmp_ge C 22 (by omega) (by omega) d_M_noPair_9 (by decide) (fun h9 => ?_) (fun h9 => ?_)
    · refine z_iconst C d_M_noPair_22 ?_
      refine z_goto C 27 d_M_noPair_23 (by decide) ?_
      exact z_zret C d_M_noPair_27 (by decide) (by decide) (by omega) (⟨rfl, _, rfl, by omega⟩)
    · refine z_iload_n C d_M_noPair_12 rfl ?_
      refine z_if_lt C 22 (by omega) d_M_noPair_13 (by decide) (fun h13 => ?_) (fun h13 => ?_)
      · refine z_iconst C d_M_noPair_22 ?_
        refine z_goto C 27 d_M_noPair_23 (by decide) ?_
        exact z_zret C d_M_noPair_27 (by decide) (by decide) (by omega) (⟨rfl, _, rfl, by omega⟩)
      · refine z_iload_n C d_M_noPair_16 rfl ?_
        refine z_bipush C d_M_noPair_17 (by decide) ?_
        refine z_icmp_le C 26 (by omega) (by omega) d_M_noPair_19 (by decide) (fun h19 => ?_) (fun h19 => ?_)
        · refine z_iconst C d_M_noPair_26 ?_
          exact z_zret C d_M_noPair_27 (by decide) (by decide) (by omega) (⟨rfl, _, rfl, by omega⟩)
        · refine z_iconst C d_M_noPair_22 ?_
          refine z_goto C 27 d_M_noPair_23 (by decide) ?_
          exact z_zret C d_M_noPair_27 (by decide) (by decide) (by omega) (⟨rfl, _, rfl, by omega⟩)
set_option maxRecDepth 100000 in
set_option maxHeartbeats 4000000 in
theorem cM_child (p : Int) (hF : zFok F A) (hI : Inv s) (hM : RM cI cZ cJ m0 ad s σ) (rp : -2147483648 ≤ p ∧ p ≤ 2147483647) : zM l D vwCl A (ztys cI cZ cJ cB) F y_M_child ws_M_child (zroom 0 0 0) [.ref m0, iv p] σ (fun r σ' => r = some (iv (sp_child s p).1) ∧ mR cI cZ cJ m0 ad σ (sp_child s p).2 σ') := by
  refine zMet2 hF (by decide) (Nat.le_of_ble_eq_true rfl) (fun K hKl C => ?_)
  have hM := mR.rf hM
  have hinj := hI.inj
  refine z_iload_n C d_M_child_0 rfl ?_
  refine z_if_lt C 20 (by omega) d_M_child_1 (by decide) (fun h1 => ?_) (fun h1 => ?_)
  · refine z_iconst C d_M_child_20 ?_
    exact z_iret C d_M_child_21 (by decide) (by decide) (by rw [show sp_child s p = (-1, s) from if_pos (by omega)]; exact ⟨rfl, hM⟩)
  · refine z_iload_n C d_M_child_4 rfl ?_
    refine z_aload_n C d_M_child_5 rfl ?_
    refine m_get C hM in_M 1 (by decide) tw_fl_M_13 rfl rfl d_M_child_6 ?_
    refine z_icmp_ge C 20 (by omega) (by omega) d_M_child_9 (by decide) (fun h9 => ?_) (fun h9 => ?_)
    · refine z_iconst C d_M_child_20 ?_
      exact z_iret C d_M_child_21 (by decide) (by decide) (by rw [show sp_child s p = (-1, s) from if_pos (by omega)]; exact ⟨rfl, hM⟩)
    · refine z_aload_n C d_M_child_12 rfl ?_
      refine m_get C hM in_M 1 (by decide) tw_fl_M_13 rfl rfl d_M_child_13 ?_
      refine z_iconst C d_M_child_16 ?_
      refine z_icmp_ne C 22 (by omega) (by omega) d_M_child_17 (by decide) (fun h17 => ?_) (fun h17 => ?_)
      · refine z_aload_n C d_M_child_22 rfl ?_
        refine m_get C hM in_M 0 (by decide) tw_fl_M_7 rfl rfl d_M_child_23 ?_
        refine z_aload_n C d_M_child_26 rfl ?_
        refine m_get C hM in_M 1 (by decide) tw_fl_M_13 rfl rfl d_M_child_27 ?_
        refine z_iload_n C d_M_child_30 rfl ?_
        refine m_iast C hM 0 rfl (n := 3) (fun _ => rfl) ((s 1 0).toNat) (by omega) (by omega) (by decide) d_M_child_31 (fun σ hM => ?_)
        refine z_aload_n C d_M_child_32 rfl ?_
        refine z_dup C rfl d_M_child_33 ?_
        refine m_get C hM in_M 1 (by decide) tw_fl_M_13 rfl rfl d_M_child_34 ?_
        refine z_iconst C d_M_child_37 ?_
        refine z_iadd C d_M_child_38 ?_
        refine m_put C hM in_M 1 (by decide) rfl tw_fl_M_13 rfl rfl (tk_M 1 (by decide)) rfl rfl rfl d_M_child_39 (fun σ hM => ?_)
        refine z_aload_n C d_M_child_42 rfl ?_
        refine m_get C hM in_M 1 (by decide) tw_fl_M_13 rfl rfl d_M_child_43 ?_
        refine z_iconst C d_M_child_46 ?_
        refine z_isub C d_M_child_47 ?_
        exact z_iret C d_M_child_48 (by decide) (by decide) (by rw [show sp_child s p = (s 1 0, sup (sup s 0 (s 1 0).toNat p) 1 0 (s 1 0 + 1)) from if_neg (by omega)]; exact ⟨by show some (iv (s 1 0 + 1 - 1)) = some (iv (s 1 0)); rw [Int.add_sub_cancel], hM⟩)
      · refine z_iconst C d_M_child_20 ?_
        exact z_iret C d_M_child_21 (by decide) (by decide) (by rw [show sp_child s p = (-1, s) from if_pos (by omega)]; exact ⟨rfl, hM⟩)
set_option maxRecDepth 100000 in
set_option maxHeartbeats 4000000 in
theorem cM_need (k z : Int) (hF : zFok F A) (hI : Inv s) (hM : RM cI cZ cJ m0 ad s σ) (rk : -2147483648 ≤ k ∧ k ≤ 2147483647) (hz : z = 0 ∨ z = 1) : zM l D vwCl A (ztys cI cZ cJ cB) F y_M_need ws_M_need (zroom 0 0 0) [.ref m0, iv k, iv z] σ (fun r σ' => r = some (iv (sp_need s k z).1) ∧ mR cI cZ cJ m0 ad σ (sp_need s k z).2 σ') := by
  refine zMet2 hF (by decide) (Nat.le_of_ble_eq_true rfl) (fun K hKl C => ?_)
  have hM := mR.rf hM
  have hbn := hI.bn
  refine z_iload_n C d_M_need_0 rfl ?_
  refine z_if_lt C 18 (by omega) d_M_need_1 (by decide) (fun h1 => ?_) (fun h1 => ?_)
  · refine z_iconst C d_M_need_18 ?_
    exact z_iret C d_M_need_19 (by decide) (by decide) (by rw [show sp_need s k z = (-1, s) from if_pos (by omega)]; exact ⟨rfl, hM⟩)
  · refine z_iload_n C d_M_need_4 rfl ?_
    refine z_bipush C d_M_need_5 (by decide) ?_
    refine z_icmp_gt C 18 (by omega) (by omega) d_M_need_7 (by decide) (fun h7 => ?_) (fun h7 => ?_)
    · refine z_iconst C d_M_need_18 ?_
      exact z_iret C d_M_need_19 (by decide) (by decide) (by rw [show sp_need s k z = (-1, s) from if_pos (by omega)]; exact ⟨rfl, hM⟩)
    · refine z_aload_n C d_M_need_10 rfl ?_
      refine m_get C hM in_M 4 (by decide) tw_fl_M_85 rfl rfl d_M_need_11 ?_
      refine z_iconst C d_M_need_14 ?_
      refine z_icmp_ne C 20 (by omega) (by omega) d_M_need_15 (by decide) (fun h15 => ?_) (fun h15 => ?_)
      · refine z_aload_n C d_M_need_20 rfl ?_
        refine m_get C hM in_M 2 (by decide) tw_fl_M_17 rfl rfl d_M_need_21 ?_
        refine z_aload_n C d_M_need_24 rfl ?_
        refine m_get C hM in_M 4 (by decide) tw_fl_M_85 rfl rfl d_M_need_25 ?_
        refine z_iload_n C d_M_need_28 rfl ?_
        refine m_iast C hM 2 rfl (n := 4) (fun _ => rfl) ((s 4 0).toNat) (by omega) (by omega) (by decide) d_M_need_29 (fun σ hM => ?_)
        refine z_aload_n C d_M_need_30 rfl ?_
        refine m_get C hM in_M 3 (by decide) tw_fl_M_20 rfl rfl d_M_need_31 ?_
        refine z_aload_n C d_M_need_34 rfl ?_
        refine m_get C hM in_M 4 (by decide) tw_fl_M_85 rfl rfl d_M_need_35 ?_
        refine z_top (w := iv (s 4 0)) rfl ?_
        refine z_iload_n C d_M_need_38 rfl ?_
        refine m_zast C hM 3 rfl (n := 4) (fun _ => rfl) ((s 4 0).toNat) (by omega) (by omega) (by decide) (by omega) d_M_need_39 (fun σ hM => ?_)
        refine z_aload_n C d_M_need_40 rfl ?_
        refine z_dup C rfl d_M_need_41 ?_
        refine m_get C hM in_M 4 (by decide) tw_fl_M_85 rfl rfl d_M_need_42 ?_
        refine z_top (w := iv (s 4 0)) rfl ?_
        refine z_iconst C d_M_need_45 ?_
        refine z_iadd C d_M_need_46 ?_
        refine m_put C hM in_M 4 (by decide) rfl tw_fl_M_85 rfl rfl (tk_M 4 (by decide)) rfl rfl rfl d_M_need_47 (fun σ hM => ?_)
        refine z_aload_n C d_M_need_50 rfl ?_
        refine m_get C hM in_M 4 (by decide) tw_fl_M_85 rfl rfl d_M_need_51 ?_
        exact z_iret C d_M_need_54 (by decide) (by decide) (by rw [show sp_need s k z = (s 4 0 + 1, sup (sup (sup s 2 (s 4 0).toNat k) 3 (s 4 0).toNat z) 4 0 (s 4 0 + 1)) from if_neg (by omega)]; exact ⟨rfl, hM⟩)
      · refine z_iconst C d_M_need_18 ?_
        exact z_iret C d_M_need_19 (by decide) (by decide) (by rw [show sp_need s k z = (-1, s) from if_pos (by omega)]; exact ⟨rfl, hM⟩)
set_option maxRecDepth 100000 in
set_option maxHeartbeats 4000000 in
theorem cM_drop  (hF : zFok F A) (hM : RM cI cZ cJ m0 ad s σ)  : zM l D vwCl A (ztys cI cZ cJ cB) F y_M_drop ws_M_drop (zroom 0 0 0) [.ref m0] σ (fun r σ' => r = some (iv (sp_drop s).1) ∧ mR cI cZ cJ m0 ad σ (sp_drop s).2 σ') := by
  refine zMet2 hF (by decide) (Nat.le_of_ble_eq_true rfl) (fun K hKl C => ?_)
  have hM := mR.rf hM
  refine z_aload_n C d_M_drop_0 rfl ?_
  refine m_get C hM in_M 4 (by decide) tw_fl_M_85 rfl rfl d_M_drop_1 ?_
  refine z_istore_n C d_M_drop_4 (by decide) ?_
  refine z_aload_n C d_M_drop_5 rfl ?_
  refine z_iconst C d_M_drop_6 ?_
  refine m_put C hM in_M 4 (by decide) rfl tw_fl_M_85 rfl rfl (tk_M 4 (by decide)) rfl rfl rfl d_M_drop_7 (fun σ hM => ?_)
  refine z_iload_n C d_M_drop_10 rfl ?_
  exact z_iret C d_M_drop_11 (by decide) (by decide) (⟨rfl, hM⟩)
set_option maxRecDepth 100000 in
set_option maxHeartbeats 4000000 in
theorem cM_open  (hF : zFok F A) (hI : Inv s) (hM : RM cI cZ cJ m0 ad s σ)  : zM l D vwCl A (ztys cI cZ cJ cB) F y_M_open ws_M_open (zroom 0 0 0) [.ref m0] σ (fun r σ' => r = some (iv (sp_open s).1) ∧ mR cI cZ cJ m0 ad σ (sp_open s).2 σ') := by
  refine zMet2 hF (by decide) (Nat.le_of_ble_eq_true rfl) (fun K hKl C => ?_)
  have hM := mR.rf hM
  have hop := hI.op
  refine z_aload_n C d_M_open_0 rfl ?_
  refine m_get C hM in_M 15 (by decide) tw_fl_M_100 rfl rfl d_M_open_1 ?_
  refine z_if_eq C 9 (by omega) d_M_open_4 (by decide) (fun h4 => ?_) (fun h4 => ?_)
  · refine z_aload_n C d_M_open_9 rfl ?_
    refine z_iconst C d_M_open_10 ?_
    refine m_put C hM in_M 15 (by decide) rfl tw_fl_M_100 rfl rfl (tk_M 15 (by decide)) (znarz (Or.inr rfl)) (zfitz (Or.inr rfl)) rfl d_M_open_11 (fun σ hM => ?_)
    refine z_iconst C d_M_open_14 ?_
    exact z_iret C d_M_open_15 (by decide) (by decide) (by rw [show sp_open s = (1, sup s 15 0 1) from if_pos (by omega)]; exact ⟨rfl, hM⟩)
  · refine z_iconst C d_M_open_7 ?_
    exact z_iret C d_M_open_8 (by decide) (by decide) (by rw [show sp_open s = (-1, s) from if_neg (by omega)]; exact ⟨rfl, hM⟩)
set_option maxRecDepth 100000 in
set_option maxHeartbeats 4000000 in
theorem cM_seen (i k : Nat) (hF : zFok F A) (hI : Inv s) (hM : RM cI cZ cJ m0 ad s σ) (hi : i < 3) (hk : k < 12) : zM l D vwCl A (ztys cI cZ cJ cB) F y_M_seen ws_M_seen (zroom 0 0 0) [.ref m0, iv (i : Int), iv (k : Int)] σ (fun r σ' => σ' = σ ∧ r = some (iv (sn s i k))) := by
  refine zMet2 hF (by decide) (Nat.le_of_ble_eq_true rfl) (fun K hKl C => ?_)
  have hM := mR.rf hM
  have loop : ∀ (n : Nat) (x : Int), -1 ≤ x → x < 3 → x < n → zJ K D vwCl A 4 (zQ K D vwCl A (fun r σ' => σ' = σ ∧ r = some (iv (snf s k n x))) 0 0) 0 0 σ 2 [some (.ref m0), some (iv (i : Int)), some (iv (k : Int)), some (iv x)] [] := by
    intro n
    induction n with
    | zero =>
      intro x h1 h2 h3
      refine z_iload_n C d_M_seen_2 rfl ?_
      refine z_if_lt C 37 (by omega) d_M_seen_3 (by decide) (fun h3 => ?_) (fun h3 => absurd h3 (by omega))
      refine z_iconst C d_M_seen_37 ?_
      exact z_iret C d_M_seen_38 (by decide) (by decide) (⟨rfl, rfl⟩)
    | succ n ih =>
      intro x h1 h2 h3
      have hp := fun h => hI.par.at (i := x.toNat) h
      have hkd := hI.kd (12 * x.toNat + k)
      have es : snf s k (n + 1) x = if x < 0 then -1 else if s 5 (12 * x.toNat + k) ≠ 0 then 12 * x + k else snf s k n (s 0 x.toNat) := rfl
      refine z_iload_n C d_M_seen_2 rfl ?_
      refine z_if_lt C 37 (by omega) d_M_seen_3 (by decide) (fun h3 => ?_) (fun h3 => ?_)
      · refine z_iconst C d_M_seen_37 ?_
        exact z_iret C d_M_seen_38 (by decide) (by decide) (by rw [es, if_pos h3]; exact ⟨rfl, rfl⟩)
      · refine z_aload_n C d_M_seen_6 rfl ?_
        refine m_get C hM in_M 5 (by decide) tw_fl_M_24 rfl rfl d_M_seen_7 ?_
        refine z_bipush C d_M_seen_10 (by decide) ?_
        refine z_iload_n C d_M_seen_12 rfl ?_
        refine z_imul C d_M_seen_13 ?_
        refine z_iload_n C d_M_seen_14 rfl ?_
        refine z_iadd C d_M_seen_15 ?_
        refine m_iald C hM 5 rfl (n := 36) (fun _ => rfl) (12 * x.toNat + k) (by omega) (by omega) (by decide) d_M_seen_16 ?_
        refine z_if_eq C 27 (by omega) d_M_seen_17 (by decide) (fun h17 => ?_) (fun h17 => ?_)
        · refine z_aload_n C d_M_seen_27 rfl ?_
          refine m_get C hM in_M 0 (by decide) tw_fl_M_7 rfl rfl d_M_seen_28 ?_
          refine z_iload_n C d_M_seen_31 rfl ?_
          refine m_iald C hM 0 rfl (n := 3) (fun _ => rfl) (x.toNat) (by omega) (by omega) (by decide) d_M_seen_32 ?_
          refine z_istore_n C d_M_seen_33 (by decide) ?_
          refine z_goto C 2 d_M_seen_34 (by decide) ?_
          rw [es, if_neg (by omega), if_neg (by omega)]
          have hp := hp (by omega)
          exact ih (s 0 x.toNat) (by omega) (by omega) (by omega)
        · refine z_bipush C d_M_seen_20 (by decide) ?_
          refine z_iload_n C d_M_seen_22 rfl ?_
          refine z_imul C d_M_seen_23 ?_
          refine z_iload_n C d_M_seen_24 rfl ?_
          refine z_iadd C d_M_seen_25 ?_
          exact z_iret C d_M_seen_26 (by decide) (by decide) (by rw [es, if_neg (by omega), if_pos h17]; exact ⟨rfl, rfl⟩)
  refine z_iload_n C d_M_seen_0 rfl ?_
  refine z_istore_n C d_M_seen_1 (by decide) ?_
  exact loop 3 (i : Int) (by omega) (by omega) (by omega)
set_option maxRecDepth 100000 in
set_option maxHeartbeats 4000000 in
theorem cM_filled {a : Nat} {f : Nat → Int} (hF : zFok F A) (hf : ∀ j, -2147483648 ≤ f j ∧ f j ≤ 2147483647) (ha : σ a = some (ia cI 36 f)) : zM l D vwCl A (ztys cI cZ cJ cB) F y_M_filled ws_M_filled (zroom 0 0 0) [.ref a] σ (fun r σ' => σ' = σ ∧ r = some (iv (cntz f 36))) := by
  refine zMet2 hF (by decide) (Nat.le_of_ble_eq_true rfl) (fun K hKl C => ?_)
  have loop : ∀ (n k : Nat), k + n = 36 → zJ K D vwCl A 3 (zQ K D vwCl A (fun r σ' => σ' = σ ∧ r = some (iv (cntz f 36))) 0 0) 0 0 σ 4 [some (.ref a), some (iv (cntz f k)), some (iv (k : Int))] [] := by
    intro n
    induction n with
    | zero =>
      intro k hk
      have e : k = 36 := by omega
      subst e
      refine z_iload_n C d_M_filled_4 rfl ?_
      refine z_bipush C d_M_filled_5 (by decide) ?_
      refine z_icmp_ge C 25 (by omega) (by omega) d_M_filled_7 (by decide) (fun h7 => ?_) (fun h7 => absurd h7 (by omega))
      refine z_iload_n C d_M_filled_25 rfl ?_
      exact z_iret C d_M_filled_26 (by decide) (by decide) (⟨rfl, rfl⟩)
    | succ n ih =>
      intro k hk
      have hfk := hf k
      have hc := cntz_r f k
      have es : cntz f (k + 1) = cntz f k + (if f k = 0 then 0 else 1) := rfl
      refine z_iload_n C d_M_filled_4 rfl ?_
      refine z_bipush C d_M_filled_5 (by decide) ?_
      refine z_icmp_ge C 25 (by omega) (by omega) d_M_filled_7 (by decide) (fun h7 => absurd h7 (by omega)) (fun h7 => ?_)
      refine z_aload_n C d_M_filled_10 rfl ?_
      refine z_iload_n C d_M_filled_11 rfl ?_
      refine z_iald C 0 rfl ha k rfl (by omega) (by decide) d_M_filled_12 ?_
      refine z_if_eq C 19 (by omega) d_M_filled_13 (by decide) (fun h13 => ?_) (fun h13 => ?_)
      · refine z_iinc C d_M_filled_19 rfl (by decide) ?_
        refine z_goto C 4 d_M_filled_22 (by decide) ?_
        have j := ih (k + 1) (by omega)
        rw [es, if_pos h13, Int.add_zero, show ((k + 1 : Nat) : Int) = (k : Int) + 1 from by omega] at j
        exact j
      · refine z_iinc C d_M_filled_16 rfl (by decide) ?_
        refine z_iinc C d_M_filled_19 rfl (by decide) ?_
        refine z_goto C 4 d_M_filled_22 (by decide) ?_
        have j := ih (k + 1) (by omega)
        rw [es, if_neg h13, show ((k + 1 : Nat) : Int) = (k : Int) + 1 from by omega] at j
        exact j
  refine z_iconst C d_M_filled_0 ?_
  refine z_istore_n C d_M_filled_1 (by decide) ?_
  refine z_iconst C d_M_filled_2 ?_
  refine z_istore_n C d_M_filled_3 (by decide) ?_
  exact loop 36 0 (by omega)
end MC1
end
section
section MC2
variable {l : Launch} {D : va_G} {A : Nat → Prop} {cI cZ cJ cB : ClassId} {F : State → Prop} {m0 : Nat} {ad : Nat → Nat} {σ : zh} {s : St}
set_option maxRecDepth 100000 in
set_option maxHeartbeats 4000000 in
theorem cM_bind (i k w v : Int) (hF : zFok F A) (hI : Inv s) (hM : RM cI cZ cJ m0 ad s σ) (ri : -2147483648 ≤ i ∧ i ≤ 2147483647) (rk : -2147483648 ≤ k ∧ k ≤ 2147483647) (rw : -2147483648 ≤ w ∧ w ≤ 2147483647) (rv : -2147483648 ≤ v ∧ v ≤ 2147483647) : zM l D vwCl A (ztys cI cZ cJ cB) F y_M_bind ws_M_bind (zroom 1 0 0) [.ref m0, iv i, iv k, iv w, iv v] σ (fun r σ' => r = some (iv (sp_bind s i k w v).1) ∧ mR cI cZ cJ m0 ad σ (sp_bind s i k w v).2 σ') := by
  refine zMet2 hF (by decide) (Nat.le_of_ble_eq_true rfl) (fun K hKl C => ?_)
  have hM := mR.rf hM
  have hinj := hI.inj
  refine z_aload_n C d_M_bind_0 rfl ?_
  refine z_iload_n C d_M_bind_1 rfl ?_
  refine z_iload_n C d_M_bind_2 rfl ?_
  refine z_callV C hKl (cM_noPair i k hF hI hM.1 ri rk) (zgood (fun _ h => h) tw_co_M_noPair) rfl (hM.1.1) rfl tw_ml_M_88 tw_im_M_noPair tw_se_M_noPair tw_in_M pd_M_noPair (by decide) rfl (Nat.le_of_ble_eq_true rfl) (by decide) d_M_bind_3 (fun r σ' hp => ?_)
  obtain ⟨rfl, b, rfl, hb⟩ := hp
  refine z_if_ne C 23 (by omega) d_M_bind_6 (by decide) (fun h6 => ?_) (fun h6 => ?_)
  · refine z_iconst C d_M_bind_23 ?_
    exact z_iret C d_M_bind_24 (by decide) (by decide) (by rw [show sp_bind s i k w v = (-1, s) from if_pos (by omega)]; exact ⟨rfl, hM⟩)
  · have hpr : ((pr i k : Nat) : Int) = 12 * i + k := by unfold pr; omega
    have hkd := hI.kd (pr i k)
    refine z_aload_n C d_M_bind_9 rfl ?_
    refine m_get C hM in_M 5 (by decide) tw_fl_M_24 rfl rfl d_M_bind_10 ?_
    refine z_bipush C d_M_bind_13 (by decide) ?_
    refine z_iload_n C d_M_bind_15 rfl ?_
    refine z_imul C d_M_bind_16 ?_
    refine z_iload_n C d_M_bind_17 rfl ?_
    refine z_iadd C d_M_bind_18 ?_
    refine m_iald C hM 5 rfl (n := 36) (fun _ => rfl) (pr i k) (by omega) (by omega) (by decide) d_M_bind_19 ?_
    refine z_if_eq C 25 (by omega) d_M_bind_20 (by decide) (fun h20 => ?_) (fun h20 => ?_)
    · refine z_aload_n C d_M_bind_25 rfl ?_
      refine m_get C hM in_M 5 (by decide) tw_fl_M_24 rfl rfl d_M_bind_26 ?_
      refine z_bipush C d_M_bind_29 (by decide) ?_
      refine z_iload_n C d_M_bind_31 rfl ?_
      refine z_imul C d_M_bind_32 ?_
      refine z_iload_n C d_M_bind_33 rfl ?_
      refine z_iadd C d_M_bind_34 ?_
      refine z_iload_n C d_M_bind_35 rfl ?_
      refine m_iast C hM 5 rfl (n := 36) (fun _ => rfl) (pr i k) (by omega) (by omega) (by decide) d_M_bind_36 (fun σ hM => ?_)
      refine z_aload_n C d_M_bind_37 rfl ?_
      refine m_get C hM in_M 6 (by decide) tw_fl_M_27 rfl rfl d_M_bind_38 ?_
      refine z_bipush C d_M_bind_41 (by decide) ?_
      refine z_iload_n C d_M_bind_43 rfl ?_
      refine z_imul C d_M_bind_44 ?_
      refine z_iload_n C d_M_bind_45 rfl ?_
      refine z_iadd C d_M_bind_46 ?_
      refine z_iload C d_M_bind_47 rfl ?_
      refine m_iast C hM 6 rfl (n := 36) (fun _ => rfl) (pr i k) (by omega) (by omega) (by decide) d_M_bind_49 (fun σ hM => ?_)
      refine z_iconst C d_M_bind_50 ?_
      exact z_iret C d_M_bind_51 (by decide) (by decide) (by rw [show sp_bind s i k w v = (1, sup (sup s 5 (pr i k) w) 6 (pr i k) v) from if_neg (by omega)]; exact ⟨rfl, hM⟩)
    · refine z_iconst C d_M_bind_23 ?_
      exact z_iret C d_M_bind_24 (by decide) (by decide) (by rw [show sp_bind s i k w v = (-1, s) from if_pos (by omega)]; exact ⟨rfl, hM⟩)
set_option maxRecDepth 100000 in
set_option maxHeartbeats 4000000 in
theorem cM_bindConstant (i k v : Int) (hF : zFok F A) (hI : Inv s) (hM : RM cI cZ cJ m0 ad s σ) (ri : -2147483648 ≤ i ∧ i ≤ 2147483647) (rk : -2147483648 ≤ k ∧ k ≤ 2147483647) (rv : -2147483648 ≤ v ∧ v ≤ 2147483647) : zM l D vwCl A (ztys cI cZ cJ cB) F y_M_bindConstant ws_M_bindConstant (zroom 2 0 0) [.ref m0, iv i, iv k, iv v] σ (fun r σ' => r = some (iv (sp_bind s i k 1 v).1) ∧ mR cI cZ cJ m0 ad σ (sp_bind s i k 1 v).2 σ') := by
  refine zMet2 hF (by decide) (Nat.le_of_ble_eq_true rfl) (fun K hKl C => ?_)
  have hM := mR.rf hM
  refine z_aload_n C d_M_bindConstant_0 rfl ?_
  refine z_iload_n C d_M_bindConstant_1 rfl ?_
  refine z_iload_n C d_M_bindConstant_2 rfl ?_
  refine z_iconst C d_M_bindConstant_3 ?_
  refine z_iload_n C d_M_bindConstant_4 rfl ?_
  refine z_callV C hKl (cM_bind i k 1 v hF hI hM.1 ri rk (by omega) rv) (zgood (fun _ h => h) tw_co_M_bind) rfl (hM.1.1) rfl tw_ml_M_92 tw_im_M_bind tw_se_M_bind tw_in_M pd_M_bind (by decide) rfl (Nat.le_of_ble_eq_true rfl) (by decide) d_M_bindConstant_5 (fun r σ' hp => ?_)
  obtain ⟨rfl, hp⟩ := hp
  exact z_iret C d_M_bindConstant_8 (by decide) (by decide) (⟨rfl, hp⟩)
set_option maxRecDepth 100000 in
set_option maxHeartbeats 4000000 in
theorem cM_bindLink (i k t : Int) (hF : zFok F A) (hI : Inv s) (hM : RM cI cZ cJ m0 ad s σ) (ri : -2147483648 ≤ i ∧ i ≤ 2147483647) (rk : -2147483648 ≤ k ∧ k ≤ 2147483647) (rt : -2147483648 ≤ t ∧ t ≤ 2147483647) : zM l D vwCl A (ztys cI cZ cJ cB) F y_M_bindLink ws_M_bindLink (zroom 2 0 0) [.ref m0, iv i, iv k, iv t] σ (fun r σ' => r = some (iv (sp_bindLink s i k t).1) ∧ mR cI cZ cJ m0 ad σ (sp_bindLink s i k t).2 σ') := by
  refine zMet2 hF (by decide) (Nat.le_of_ble_eq_true rfl) (fun K hKl C => ?_)
  have hM := mR.rf hM
  refine z_iload_n C d_M_bindLink_0 rfl ?_
  refine z_if_lt C 10 (by omega) d_M_bindLink_1 (by decide) (fun h1 => ?_) (fun h1 => ?_)
  · refine z_iconst C d_M_bindLink_10 ?_
    refine z_goto C 22 d_M_bindLink_11 (by decide) ?_
    exact z_iret C d_M_bindLink_22 (by decide) (by decide) (by rw [show sp_bindLink s i k t = (-1, s) from if_pos (by omega)]; exact ⟨rfl, hM⟩)
  · refine z_iload_n C d_M_bindLink_4 rfl ?_
    refine z_bipush C d_M_bindLink_5 (by decide) ?_
    refine z_icmp_le C 14 (by omega) (by omega) d_M_bindLink_7 (by decide) (fun h7 => ?_) (fun h7 => ?_)
    · refine z_aload_n C d_M_bindLink_14 rfl ?_
      refine z_iload_n C d_M_bindLink_15 rfl ?_
      refine z_iload_n C d_M_bindLink_16 rfl ?_
      refine z_iconst C d_M_bindLink_17 ?_
      refine z_iload_n C d_M_bindLink_18 rfl ?_
      refine z_callV C hKl (cM_bind i k 2 t hF hI hM.1 ri rk (by omega) rt) (zgood (fun _ h => h) tw_co_M_bind) rfl (hM.1.1) rfl tw_ml_M_92 tw_im_M_bind tw_se_M_bind tw_in_M pd_M_bind (by decide) rfl (Nat.le_of_ble_eq_true rfl) (by decide) d_M_bindLink_19 (fun r σ' hp => ?_)
      obtain ⟨rfl, hp⟩ := hp
      exact z_iret C d_M_bindLink_22 (by decide) (by decide) (by rw [show sp_bindLink s i k t = sp_bind s i k 2 t from if_neg (by omega)]; exact ⟨rfl, hp⟩)
    · refine z_iconst C d_M_bindLink_10 ?_
      refine z_goto C 22 d_M_bindLink_11 (by decide) ?_
      exact z_iret C d_M_bindLink_22 (by decide) (by decide) (by rw [show sp_bindLink s i k t = (-1, s) from if_pos (by omega)]; exact ⟨rfl, hM⟩)
set_option maxRecDepth 100000 in
set_option maxHeartbeats 4000000 in
theorem cM_unbind (i k : Int) (hF : zFok F A) (hI : Inv s) (hM : RM cI cZ cJ m0 ad s σ) (ri : -2147483648 ≤ i ∧ i ≤ 2147483647) (rk : -2147483648 ≤ k ∧ k ≤ 2147483647) : zM l D vwCl A (ztys cI cZ cJ cB) F y_M_unbind ws_M_unbind (zroom 1 0 0) [.ref m0, iv i, iv k] σ (fun r σ' => r = some (iv (sp_unbind s i k).1) ∧ mR cI cZ cJ m0 ad σ (sp_unbind s i k).2 σ') := by
  refine zMet2 hF (by decide) (Nat.le_of_ble_eq_true rfl) (fun K hKl C => ?_)
  have hM := mR.rf hM
  have hinj := hI.inj
  refine z_aload_n C d_M_unbind_0 rfl ?_
  refine z_iload_n C d_M_unbind_1 rfl ?_
  refine z_iload_n C d_M_unbind_2 rfl ?_
  refine z_callV C hKl (cM_noPair i k hF hI hM.1 ri rk) (zgood (fun _ h => h) tw_co_M_noPair) rfl (hM.1.1) rfl tw_ml_M_88 tw_im_M_noPair tw_se_M_noPair tw_in_M pd_M_noPair (by decide) rfl (Nat.le_of_ble_eq_true rfl) (by decide) d_M_unbind_3 (fun r σ' hp => ?_)
  obtain ⟨rfl, b, rfl, hb⟩ := hp
  refine z_if_ne C 23 (by omega) d_M_unbind_6 (by decide) (fun h6 => ?_) (fun h6 => ?_)
  · refine z_iconst C d_M_unbind_23 ?_
    exact z_iret C d_M_unbind_24 (by decide) (by decide) (by rw [show sp_unbind s i k = (-1, s) from if_pos (by omega)]; exact ⟨rfl, hM⟩)
  · have hpr : ((pr i k : Nat) : Int) = 12 * i + k := by unfold pr; omega
    have hkd := hI.kd (pr i k)
    refine z_aload_n C d_M_unbind_9 rfl ?_
    refine m_get C hM in_M 5 (by decide) tw_fl_M_24 rfl rfl d_M_unbind_10 ?_
    refine z_bipush C d_M_unbind_13 (by decide) ?_
    refine z_iload_n C d_M_unbind_15 rfl ?_
    refine z_imul C d_M_unbind_16 ?_
    refine z_iload_n C d_M_unbind_17 rfl ?_
    refine z_iadd C d_M_unbind_18 ?_
    refine m_iald C hM 5 rfl (n := 36) (fun _ => rfl) (pr i k) (by omega) (by omega) (by decide) d_M_unbind_19 ?_
    refine z_if_ne C 25 (by omega) d_M_unbind_20 (by decide) (fun h20 => ?_) (fun h20 => ?_)
    · refine z_bipush C d_M_unbind_25 (by decide) ?_
      refine z_iload_n C d_M_unbind_27 rfl ?_
      refine z_imul C d_M_unbind_28 ?_
      refine z_iload_n C d_M_unbind_29 rfl ?_
      refine z_iadd C d_M_unbind_30 ?_
      refine z_istore_n C d_M_unbind_31 (by decide) ?_
      refine z_aload_n C d_M_unbind_32 rfl ?_
      refine m_get C hM in_M 5 (by decide) tw_fl_M_24 rfl rfl d_M_unbind_33 ?_
      refine z_iload_n C d_M_unbind_36 rfl ?_
      refine z_iconst C d_M_unbind_37 ?_
      refine m_iast C hM 5 rfl (n := 36) (fun _ => rfl) (pr i k) (by omega) (by omega) (by decide) d_M_unbind_38 (fun σ hM => ?_)
      refine z_aload_n C d_M_unbind_39 rfl ?_
      refine m_get C hM in_M 11 (by decide) tw_fl_M_42 rfl rfl d_M_unbind_40 ?_
      refine z_iload_n C d_M_unbind_43 rfl ?_
      refine z_iconst C d_M_unbind_44 ?_
      refine m_iast C hM 11 rfl (n := 36) (fun _ => rfl) (pr i k) (by omega) (by omega) (by decide) d_M_unbind_45 (fun σ hM => ?_)
      refine z_aload_n C d_M_unbind_46 rfl ?_
      refine m_get C hM in_M 12 (by decide) tw_fl_M_45 rfl rfl d_M_unbind_47 ?_
      refine z_iload_n C d_M_unbind_50 rfl ?_
      refine z_iconst C d_M_unbind_51 ?_
      refine m_iast C hM 12 rfl (n := 36) (fun _ => rfl) (pr i k) (by omega) (by omega) (by decide) d_M_unbind_52 (fun σ hM => ?_)
      refine z_iconst C d_M_unbind_53 ?_
      exact z_iret C d_M_unbind_54 (by decide) (by decide) (by rw [show sp_unbind s i k = (1, sup (sup (sup s 5 (pr i k) 0) 11 (pr i k) 0) 12 (pr i k) 0) from if_neg (by omega)]; exact ⟨rfl, hM⟩)
    · refine z_iconst C d_M_unbind_23 ?_
      exact z_iret C d_M_unbind_24 (by decide) (by decide) (by rw [show sp_unbind s i k = (-1, s) from if_pos (by omega)]; exact ⟨rfl, hM⟩)
set_option maxRecDepth 100000 in
set_option maxHeartbeats 4000000 in
theorem cM_close  (hF : zFok F A) (hI : Inv s) (hM : RM cI cZ cJ m0 ad s σ)  : zM l D vwCl A (ztys cI cZ cJ cB) F y_M_close ws_M_close (zroom 1 0 0) [.ref m0] σ (fun r σ' => r = some (iv (sp_close s).1) ∧ mR cI cZ cJ m0 ad σ (sp_close s).2 σ') := by
  refine zMet2 hF (by decide) (Nat.le_of_ble_eq_true rfl) (fun K hKl C => ?_)
  have hM := mR.rf hM
  have hop := hI.op
  have hcn := cntz_r (s 12) 36
  have loop : s 15 0 = 1 → ∀ (n k : Nat), k + n = 36 → ∀ σ1 : zh, mR cI cZ cJ m0 ad σ (srow (sup s 15 0 0) 12 (zer (s 12) k)) σ1 → zJ K D vwCl A 3 (zQ K D vwCl A (fun r σ' => r = some (iv (sp_close s).1) ∧ mR cI cZ cJ m0 ad σ (sp_close s).2 σ') 0 0) 0 0 σ1 24 [some (.ref m0), some (iv (cntz (s 12) 36)), some (iv (k : Int))] [] := by
    intro ho n
    induction n with
    | zero =>
      intro k hk σ1 hM
      have e : k = 36 := by omega
      subst e
      refine z_iload_n C d_M_close_24 rfl ?_
      refine z_bipush C d_M_close_25 (by decide) ?_
      refine z_icmp_ge C 43 (by omega) (by omega) d_M_close_27 (by decide) (fun h27 => ?_) (fun h27 => absurd h27 (by omega))
      refine z_iload_n C d_M_close_43 rfl ?_
      exact z_iret C d_M_close_44 (by decide) (by decide) (by rw [show sp_close s = (cntz (s 12) 36, srow (sup s 15 0 0) 12 (zer (s 12) 36)) from if_neg (by omega)]; exact ⟨rfl, hM⟩)
    | succ n ih =>
      intro k hk σ1 hM
      refine z_iload_n C d_M_close_24 rfl ?_
      refine z_bipush C d_M_close_25 (by decide) ?_
      refine z_icmp_ge C 43 (by omega) (by omega) d_M_close_27 (by decide) (fun h27 => absurd h27 (by omega)) (fun h27 => ?_)
      refine z_aload_n C d_M_close_30 rfl ?_
      refine m_get C hM in_M 12 (by decide) tw_fl_M_45 rfl rfl d_M_close_31 ?_
      refine z_iload_n C d_M_close_34 rfl ?_
      refine z_iconst C d_M_close_35 ?_
      refine m_iast C hM 12 rfl (n := 36) (fun _ => rfl) (k) (by omega) (by omega) (by decide) d_M_close_36 (fun σ hM => ?_)
      have e : sup (srow (sup s 15 0 0) 12 (zer (s 12) k)) 12 k 0 = srow (sup s 15 0 0) 12 (zer (s 12) (k + 1)) := by
        rw [sup_srow, srow_s, zer_1, srow_srow]
      rw [e] at hM
      refine z_iinc C d_M_close_37 rfl (by decide) ?_
      refine z_goto C 24 d_M_close_40 (by decide) ?_
      exact ih (k + 1) (by omega) σ hM
  refine z_aload_n C d_M_close_0 rfl ?_
  refine m_get C hM in_M 15 (by decide) tw_fl_M_100 rfl rfl d_M_close_1 ?_
  refine z_if_ne C 9 (by omega) d_M_close_4 (by decide) (fun h4 => ?_) (fun h4 => ?_)
  · refine z_aload_n C d_M_close_9 rfl ?_
    refine m_get C hM in_M 12 (by decide) tw_fl_M_45 rfl rfl d_M_close_10 ?_
    refine z_callS C hKl (cM_filled (a := ad 12) (f := s 12) hF (fun j => by have := hI.re j; have := hI.md; omega) (hM.1.2.1 12 rfl)) (zgood (fun _ h => h) tw_co_M_filled) rfl tw_ml_M_104 tw_st_M_filled tw_in_M pd_M_filled (by decide) rfl (Nat.le_of_ble_eq_true rfl) (by decide) d_M_close_13 (fun r σ' hp => ?_)
    obtain ⟨rfl, rfl⟩ := hp
    refine z_istore_n C d_M_close_16 (by decide) ?_
    refine z_aload_n C d_M_close_17 rfl ?_
    refine z_iconst C d_M_close_18 ?_
    refine m_put C hM in_M 15 (by decide) rfl tw_fl_M_100 rfl rfl (tk_M 15 (by decide)) (znarz (Or.inl rfl)) (zfitz (Or.inl rfl)) rfl d_M_close_19 (fun σ hM => ?_)
    refine z_iconst C d_M_close_22 ?_
    refine z_istore_n C d_M_close_23 (by decide) ?_
    exact loop (by omega) 36 0 (by omega) σ (by rw [zer_00]; exact hM)
  · refine z_iconst C d_M_close_7 ?_
    exact z_iret C d_M_close_8 (by decide) (by decide) (by rw [show sp_close s = (-1, s) from if_pos (by omega)]; exact ⟨rfl, hM⟩)
set_option maxRecDepth 100000 in
set_option maxHeartbeats 4000000 in
theorem cM_keepCopies  (hF : zFok F A) (hM : RM cI cZ cJ m0 ad s σ)  : zM l D vwCl A (ztys cI cZ cJ cB) F y_M_keepCopies ws_M_keepCopies (zroom 0 0 0) [.ref m0] σ (fun r σ' => r = none ∧ mR cI cZ cJ m0 ad σ (kcp s 36) σ') := by
  refine zMet2 hF (by decide) (Nat.le_of_ble_eq_true rfl) (fun K hKl C => ?_)
  have hM := mR.rf hM
  have loop : ∀ (n k : Nat), k + n = 36 → ∀ σ1 : zh, mR cI cZ cJ m0 ad σ (kcp s k) σ1 → zJ K D vwCl A 2 (zQ K D vwCl A (fun r σ' => r = none ∧ mR cI cZ cJ m0 ad σ (kcp s 36) σ') 0 0) 0 0 σ1 2 [some (.ref m0), some (iv (k : Int))] [] := by
    intro n
    induction n with
    | zero =>
      intro k hk σ1 hM
      have e : k = 36 := by omega
      subst e
      refine z_iload_n C d_M_keepCopies_2 rfl ?_
      refine z_bipush C d_M_keepCopies_3 (by decide) ?_
      refine z_icmp_ge C 38 (by omega) (by omega) d_M_keepCopies_5 (by decide) (fun h5 => ?_) (fun h5 => absurd h5 (by omega))
      exact z_vret C d_M_keepCopies_38 (by decide) (by decide) (⟨rfl, hM⟩)
    | succ n ih =>
      intro k hk σ1 hM
      refine z_iload_n C d_M_keepCopies_2 rfl ?_
      refine z_bipush C d_M_keepCopies_3 (by decide) ?_
      refine z_icmp_ge C 38 (by omega) (by omega) d_M_keepCopies_5 (by decide) (fun h5 => absurd h5 (by omega)) (fun h5 => ?_)
      refine z_aload_n C d_M_keepCopies_8 rfl ?_
      refine m_get C hM in_M 13 (by decide) tw_fl_M_48 rfl rfl d_M_keepCopies_9 ?_
      refine z_iload_n C d_M_keepCopies_12 rfl ?_
      refine z_aload_n C d_M_keepCopies_13 rfl ?_
      refine m_get C hM in_M 11 (by decide) tw_fl_M_42 rfl rfl d_M_keepCopies_14 ?_
      refine z_iload_n C d_M_keepCopies_17 rfl ?_
      refine m_iald C hM 11 rfl (n := 36) (fun _ => rfl) (k) (by omega) (by omega) (by decide) d_M_keepCopies_18 ?_
      refine z_top (w := iv (s 11 k)) rfl ?_
      refine m_iast C hM 13 rfl (n := 36) (fun _ => rfl) (k) (by omega) (by omega) (by decide) d_M_keepCopies_19 (fun σ hM => ?_)
      refine z_aload_n C d_M_keepCopies_20 rfl ?_
      refine m_get C hM in_M 14 (by decide) tw_fl_M_51 rfl rfl d_M_keepCopies_21 ?_
      refine z_iload_n C d_M_keepCopies_24 rfl ?_
      refine z_aload_n C d_M_keepCopies_25 rfl ?_
      refine m_get C hM in_M 12 (by decide) tw_fl_M_45 rfl rfl d_M_keepCopies_26 ?_
      refine z_iload_n C d_M_keepCopies_29 rfl ?_
      refine m_iald C hM 12 rfl (n := 36) (fun _ => rfl) (k) (by omega) (by omega) (by decide) d_M_keepCopies_30 ?_
      refine z_top (w := iv (s 12 k)) rfl ?_
      refine m_iast C hM 14 rfl (n := 36) (fun _ => rfl) (k) (by omega) (by omega) (by decide) d_M_keepCopies_31 (fun σ hM => ?_)
      rw [kcp_1] at hM
      refine z_iinc C d_M_keepCopies_32 rfl (by decide) ?_
      refine z_goto C 2 d_M_keepCopies_35 (by decide) ?_
      exact ih (k + 1) (by omega) σ hM
  refine z_iconst C d_M_keepCopies_0 ?_
  refine z_istore_n C d_M_keepCopies_1 (by decide) ?_
  exact loop 36 0 (by omega) σ (by rw [kcp_0]; exact hM)
set_option maxRecDepth 100000 in
set_option maxHeartbeats 4000000 in
theorem cM_takeBack (m : Int) (hF : zFok F A) (hM : RM cI cZ cJ m0 ad s σ)  : zM l D vwCl A (ztys cI cZ cJ cB) F y_M_takeBack ws_M_takeBack (zroom 0 0 0) [.ref m0, iv m] σ (fun r σ' => r = none ∧ mR cI cZ cJ m0 ad σ (tbk s m 36) σ') := by
  refine zMet2 hF (by decide) (Nat.le_of_ble_eq_true rfl) (fun K hKl C => ?_)
  have hM := mR.rf hM
  have loop : ∀ (n k : Nat), k + n = 36 → ∀ σ1 : zh, mR cI cZ cJ m0 ad σ (tbk s m k) σ1 → zJ K D vwCl A 3 (zQ K D vwCl A (fun r σ' => r = none ∧ mR cI cZ cJ m0 ad σ (tbk s m 36) σ') 0 0) 0 0 σ1 7 [some (.ref m0), some (iv m), some (iv (k : Int))] [] := by
    intro n
    induction n with
    | zero =>
      intro k hk σ1 hM
      have e : k = 36 := by omega
      subst e
      refine z_iload_n C d_M_takeBack_7 rfl ?_
      refine z_bipush C d_M_takeBack_8 (by decide) ?_
      refine z_icmp_ge C 43 (by omega) (by omega) d_M_takeBack_10 (by decide) (fun h10 => ?_) (fun h10 => absurd h10 (by omega))
      exact z_vret C d_M_takeBack_43 (by decide) (by decide) (⟨rfl, hM⟩)
    | succ n ih =>
      intro k hk σ1 hM
      refine z_iload_n C d_M_takeBack_7 rfl ?_
      refine z_bipush C d_M_takeBack_8 (by decide) ?_
      refine z_icmp_ge C 43 (by omega) (by omega) d_M_takeBack_10 (by decide) (fun h10 => absurd h10 (by omega)) (fun h10 => ?_)
      refine z_aload_n C d_M_takeBack_13 rfl ?_
      refine m_get C hM in_M 11 (by decide) tw_fl_M_42 rfl rfl d_M_takeBack_14 ?_
      refine z_iload_n C d_M_takeBack_17 rfl ?_
      refine z_aload_n C d_M_takeBack_18 rfl ?_
      refine m_get C hM in_M 13 (by decide) tw_fl_M_48 rfl rfl d_M_takeBack_19 ?_
      refine z_iload_n C d_M_takeBack_22 rfl ?_
      refine m_iald C hM 13 rfl (n := 36) (fun _ => rfl) (k) (by omega) (by omega) (by decide) d_M_takeBack_23 ?_
      refine z_top (w := iv (s 13 k)) rfl ?_
      refine m_iast C hM 11 rfl (n := 36) (fun _ => rfl) (k) (by omega) (by omega) (by decide) d_M_takeBack_24 (fun σ hM => ?_)
      refine z_aload_n C d_M_takeBack_25 rfl ?_
      refine m_get C hM in_M 12 (by decide) tw_fl_M_45 rfl rfl d_M_takeBack_26 ?_
      refine z_iload_n C d_M_takeBack_29 rfl ?_
      refine z_aload_n C d_M_takeBack_30 rfl ?_
      refine m_get C hM in_M 14 (by decide) tw_fl_M_51 rfl rfl d_M_takeBack_31 ?_
      refine z_iload_n C d_M_takeBack_34 rfl ?_
      refine m_iald C hM 14 rfl (n := 36) (fun _ => rfl) (k) (by omega) (by omega) (by decide) d_M_takeBack_35 ?_
      refine z_top (w := iv (s 14 k)) rfl ?_
      refine m_iast C hM 12 rfl (n := 36) (fun _ => rfl) (k) (by omega) (by omega) (by decide) d_M_takeBack_36 (fun σ hM => ?_)
      rw [tbk_1] at hM
      refine z_iinc C d_M_takeBack_37 rfl (by decide) ?_
      refine z_goto C 7 d_M_takeBack_40 (by decide) ?_
      exact ih (k + 1) (by omega) σ hM
  refine z_aload_n C d_M_takeBack_0 rfl ?_
  refine z_iload_n C d_M_takeBack_1 rfl ?_
  refine m_put C hM in_M 23 (by decide) rfl tw_fl_M_129 rfl rfl (tk_M 23 (by decide)) rfl rfl rfl d_M_takeBack_2 (fun σ hM => ?_)
  refine z_iconst C d_M_takeBack_5 ?_
  refine z_istore_n C d_M_takeBack_6 (by decide) ?_
  exact loop 36 0 (by omega) σ (by rw [tbk_0]; exact hM)
set_option maxRecDepth 100000 in
set_option maxHeartbeats 4000000 in
theorem cM_noNeed (i n : Int) (hF : zFok F A) (hI : Inv s) (hM : RM cI cZ cJ m0 ad s σ) (ri : -2147483648 ≤ i ∧ i ≤ 2147483647) (rn : -2147483648 ≤ n ∧ n ≤ 2147483647) : zM l D vwCl A (ztys cI cZ cJ cB) F y_M_noNeed ws_M_noNeed (zroom 0 0 0) [.ref m0, iv i, iv n] σ (fun r σ' => σ' = σ ∧ ∃ b : Int, r = some (iv b) ∧ ((b = 1 ∧ (i < 0 ∨ s 23 0 ≤ i ∨ n < 0 ∨ s 19 i.toNat ≤ n)) ∨ (b = 0 ∧ 0 ≤ i ∧ i < s 23 0 ∧ 0 ≤ n ∧ n < s 19 i.toNat))) := by
  refine zMet2 hF (by decide) (Nat.le_of_ble_eq_true rfl) (fun K hKl C => ?_)
  have hM := mR.rf hM
  have hmd := hI.md
  have hin := hI.inn i.toNat
  refine z_iload_n C d_M_noNeed_0 rfl ?_
  refine z_if_lt C 26 (by omega) d_M_noNeed_1 (by decide) (fun h1 => ?_) (fun h1 => ?_)
  · refine z_iconst C d_M_noNeed_26 ?_
    refine z_goto C 31 d_M_noNeed_27 (by decide) ?_
    exact z_zret C d_M_noNeed_31 (by decide) (by decide) (by omega) (⟨rfl, _, rfl, by omega⟩)
  · refine z_iload_n C d_M_noNeed_4 rfl ?_
    refine z_aload_n C d_M_noNeed_5 rfl ?_
    refine m_get C hM in_M 23 (by decide) tw_fl_M_129 rfl rfl d_M_noNeed_6 ?_
    refine z_icmp_ge C 26 (by omega) (by omega) d_M_noNeed_9 (by decide) (fun h9 => ?_) (fun h9 => ?_)
    · refine z_iconst C d_M_noNeed_26 ?_
      refine z_goto C 31 d_M_noNeed_27 (by decide) ?_
      exact z_zret C d_M_noNeed_31 (by decide) (by decide) (by omega) (⟨rfl, _, rfl, by omega⟩)
    · refine z_iload_n C d_M_noNeed_12 rfl ?_
      refine z_if_lt C 26 (by omega) d_M_noNeed_13 (by decide) (fun h13 => ?_) (fun h13 => ?_)
      · refine z_iconst C d_M_noNeed_26 ?_
        refine z_goto C 31 d_M_noNeed_27 (by decide) ?_
        exact z_zret C d_M_noNeed_31 (by decide) (by decide) (by omega) (⟨rfl, _, rfl, by omega⟩)
      · refine z_iload_n C d_M_noNeed_16 rfl ?_
        refine z_aload_n C d_M_noNeed_17 rfl ?_
        refine m_get C hM in_M 19 (by decide) tw_fl_M_63 rfl rfl d_M_noNeed_18 ?_
        refine z_iload_n C d_M_noNeed_21 rfl ?_
        refine m_iald C hM 19 rfl (n := 100) (fun _ => rfl) (i.toNat) (by omega) (by omega) (by decide) d_M_noNeed_22 ?_
        refine z_icmp_lt C 30 (by omega) (by omega) d_M_noNeed_23 (by decide) (fun h23 => ?_) (fun h23 => ?_)
        · refine z_iconst C d_M_noNeed_30 ?_
          exact z_zret C d_M_noNeed_31 (by decide) (by decide) (by omega) (⟨rfl, _, rfl, by omega⟩)
        · refine z_iconst C d_M_noNeed_26 ?_
          refine z_goto C 31 d_M_noNeed_27 (by decide) ?_
          exact z_zret C d_M_noNeed_31 (by decide) (by decide) (by omega) (⟨rfl, _, rfl, by omega⟩)
set_option maxRecDepth 100000 in
set_option maxHeartbeats 4000000 in
theorem cM_held (i n : Int) (hF : zFok F A) (hI : Inv s) (hM : RM cI cZ cJ m0 ad s σ) (ri : -2147483648 ≤ i ∧ i ≤ 2147483647) (rn : -2147483648 ≤ n ∧ n ≤ 2147483647) : zM l D vwCl A (ztys cI cZ cJ cB) F y_M_held ws_M_held (zroom 1 0 0) [.ref m0, iv i, iv n] σ (fun r σ' => σ' = σ ∧ r = some (jv (sp_held s i n))) := by
  refine zMet2 hF (by decide) (Nat.le_of_ble_eq_true rfl) (fun K hKl C => ?_)
  have hM := mR.rf hM
  have hmd := hI.md
  have hin := hI.inn i.toNat
  refine z_aload_n C d_M_held_0 rfl ?_
  refine z_iload_n C d_M_held_1 rfl ?_
  refine z_iload_n C d_M_held_2 rfl ?_
  refine z_callV C hKl (cM_noNeed i n hF hI hM.1 ri rn) (zgood (fun _ h => h) tw_co_M_noNeed) rfl (hM.1.1) rfl tw_ml_M_164 tw_im_M_noNeed tw_se_M_noNeed tw_in_M pd_M_noNeed (by decide) rfl (Nat.le_of_ble_eq_true rfl) (by decide) d_M_held_3 (fun r σ' hp => ?_)
  obtain ⟨rfl, b, rfl, hb⟩ := hp
  refine z_if_eq C 15 (by omega) d_M_held_6 (by decide) (fun h6 => ?_) (fun h6 => ?_)
  · refine z_aload_n C d_M_held_15 rfl ?_
    refine m_get C hM in_M 22 (by decide) tw_fl_M_72 rfl rfl d_M_held_16 ?_
    refine z_iconst C d_M_held_19 ?_
    refine z_iload_n C d_M_held_20 rfl ?_
    refine z_imul C d_M_held_21 ?_
    refine z_iload_n C d_M_held_22 rfl ?_
    refine z_iadd C d_M_held_23 ?_
    refine m_lald C hM 22 rfl (n := 400) (fun _ => rfl) (4 * i.toNat + n.toNat) (by omega) (by omega) (by decide) d_M_held_24 ?_
    exact z_lret C d_M_held_25 (by decide) (by decide) (by rw [show sp_held s i n = s 22 (4 * i.toNat + n.toNat) from if_neg (by omega)]; exact ⟨rfl, rfl⟩)
  · refine z_ldc2 C (-1) tw_kl_M_152 d_M_held_9 ?_
    refine z_goto C 25 d_M_held_12 (by decide) ?_
    exact z_lret C d_M_held_25 (by decide) (by decide) (by rw [show sp_held s i n = -1 from if_pos (by omega)]; exact ⟨rfl, rfl⟩)
set_option maxRecDepth 100000 in
set_option maxHeartbeats 4000000 in
theorem cM_about (i w : Int) (hF : zFok F A) (hI : Inv s) (hM : RM cI cZ cJ m0 ad s σ) (ri : -2147483648 ≤ i ∧ i ≤ 2147483647) (rw : -2147483648 ≤ w ∧ w ≤ 2147483647) : zM l D vwCl A (ztys cI cZ cJ cB) F y_M_about ws_M_about (zroom 0 0 0) [.ref m0, iv i, iv w] σ (fun r σ' => σ' = σ ∧ r = some (iv (sp_about s i w))) := by
  refine zMet2 hF (by decide) (Nat.le_of_ble_eq_true rfl) (fun K hKl C => ?_)
  have hM := mR.rf hM
  have hmd := hI.md
  refine z_iload_n C d_M_about_0 rfl ?_
  refine z_if_lt C 21 (by omega) d_M_about_1 (by decide) (fun h1 => ?_) (fun h1 => ?_)
  · refine z_iconst C d_M_about_21 ?_
    exact z_iret C d_M_about_22 (by decide) (by decide) (by rw [show sp_about s i w = -1 from if_pos (by omega)]; exact ⟨rfl, rfl⟩)
  · refine z_iload_n C d_M_about_4 rfl ?_
    refine z_aload_n C d_M_about_5 rfl ?_
    refine m_get C hM in_M 23 (by decide) tw_fl_M_129 rfl rfl d_M_about_6 ?_
    refine z_icmp_ge C 21 (by omega) (by omega) d_M_about_9 (by decide) (fun h9 => ?_) (fun h9 => ?_)
    · refine z_iconst C d_M_about_21 ?_
      exact z_iret C d_M_about_22 (by decide) (by decide) (by rw [show sp_about s i w = -1 from if_pos (by omega)]; exact ⟨rfl, rfl⟩)
    · refine z_iload_n C d_M_about_12 rfl ?_
      refine z_if_lt C 21 (by omega) d_M_about_13 (by decide) (fun h13 => ?_) (fun h13 => ?_)
      · refine z_iconst C d_M_about_21 ?_
        exact z_iret C d_M_about_22 (by decide) (by decide) (by unfold sp_about; rw [if_neg (by omega), if_neg (by omega), if_neg (by omega), if_neg (by omega), if_neg (by omega)]; exact ⟨rfl, rfl⟩)
      · refine z_iload_n C d_M_about_16 rfl ?_
        refine z_iconst C d_M_about_17 ?_
        refine z_icmp_le C 23 (by omega) (by omega) d_M_about_18 (by decide) (fun h18 => ?_) (fun h18 => ?_)
        · refine z_iload_n C d_M_about_23 rfl ?_
          refine z_if_ne C 36 (by omega) d_M_about_24 (by decide) (fun h24 => ?_) (fun h24 => ?_)
          · refine z_iload_n C d_M_about_36 rfl ?_
            refine z_iconst C d_M_about_37 ?_
            refine z_icmp_ne C 50 (by omega) (by omega) d_M_about_38 (by decide) (fun h38 => ?_) (fun h38 => ?_)
            · refine z_iload_n C d_M_about_50 rfl ?_
              refine z_iconst C d_M_about_51 ?_
              refine z_icmp_ne C 64 (by omega) (by omega) d_M_about_52 (by decide) (fun h52 => ?_) (fun h52 => ?_)
              · refine z_aload_n C d_M_about_64 rfl ?_
                refine m_get C hM in_M 18 (by decide) tw_fl_M_60 rfl rfl d_M_about_65 ?_
                refine z_iload_n C d_M_about_68 rfl ?_
                refine m_iald C hM 18 rfl (n := 100) (fun _ => rfl) (i.toNat) (by omega) (by omega) (by decide) d_M_about_69 ?_
                exact z_iret C d_M_about_70 (by decide) (by decide) (by unfold sp_about; rw [if_neg (by omega), if_neg (by omega), if_neg (by omega), if_neg (by omega), if_pos (by omega)]; exact ⟨rfl, rfl⟩)
              · refine z_aload_n C d_M_about_55 rfl ?_
                refine m_get C hM in_M 19 (by decide) tw_fl_M_63 rfl rfl d_M_about_56 ?_
                refine z_iload_n C d_M_about_59 rfl ?_
                refine m_iald C hM 19 rfl (n := 100) (fun _ => rfl) (i.toNat) (by omega) (by omega) (by decide) d_M_about_60 ?_
                refine z_goto C 70 d_M_about_61 (by decide) ?_
                exact z_iret C d_M_about_70 (by decide) (by decide) (by unfold sp_about; rw [if_neg (by omega), if_neg (by omega), if_neg (by omega), if_pos (by omega)]; exact ⟨rfl, rfl⟩)
            · refine z_aload_n C d_M_about_41 rfl ?_
              refine m_get C hM in_M 17 (by decide) tw_fl_M_57 rfl rfl d_M_about_42 ?_
              refine z_iload_n C d_M_about_45 rfl ?_
              refine m_iald C hM 17 rfl (n := 100) (fun _ => rfl) (i.toNat) (by omega) (by omega) (by decide) d_M_about_46 ?_
              refine z_goto C 70 d_M_about_47 (by decide) ?_
              exact z_iret C d_M_about_70 (by decide) (by decide) (by unfold sp_about; rw [if_neg (by omega), if_neg (by omega), if_pos (by omega)]; exact ⟨rfl, rfl⟩)
          · refine z_aload_n C d_M_about_27 rfl ?_
            refine m_get C hM in_M 16 (by decide) tw_fl_M_54 rfl rfl d_M_about_28 ?_
            refine z_iload_n C d_M_about_31 rfl ?_
            refine m_iald C hM 16 rfl (n := 100) (fun _ => rfl) (i.toNat) (by omega) (by omega) (by decide) d_M_about_32 ?_
            refine z_goto C 70 d_M_about_33 (by decide) ?_
            exact z_iret C d_M_about_70 (by decide) (by decide) (by unfold sp_about; rw [if_neg (by omega), if_pos (by omega)]; exact ⟨rfl, rfl⟩)
        · refine z_iconst C d_M_about_21 ?_
          exact z_iret C d_M_about_22 (by decide) (by decide) (by unfold sp_about; rw [if_neg (by omega), if_neg (by omega), if_neg (by omega), if_neg (by omega), if_neg (by omega)]; exact ⟨rfl, rfl⟩)
set_option maxRecDepth 100000 in
set_option maxHeartbeats 4000000 in
theorem cM_home (i k : Int) (hF : zFok F A) (hI : Inv s) (hM : RM cI cZ cJ m0 ad s σ) (ri : -2147483648 ≤ i ∧ i ≤ 2147483647) (rk : -2147483648 ≤ k ∧ k ≤ 2147483647) : zM l D vwCl A (ztys cI cZ cJ cB) F y_M_home ws_M_home (zroom 1 0 0) [.ref m0, iv i, iv k] σ (fun r σ' => σ' = σ ∧ r = some (iv (sp_home s i k))) := by
  refine zMet2 hF (by decide) (Nat.le_of_ble_eq_true rfl) (fun K hKl C => ?_)
  have hM := mR.rf hM
  have hinj := hI.inj
  refine z_aload_n C d_M_home_0 rfl ?_
  refine z_iload_n C d_M_home_1 rfl ?_
  refine z_iload_n C d_M_home_2 rfl ?_
  refine z_callV C hKl (cM_noPair i k hF hI hM.1 ri rk) (zgood (fun _ h => h) tw_co_M_noPair) rfl (hM.1.1) rfl tw_ml_M_88 tw_im_M_noPair tw_se_M_noPair tw_in_M pd_M_noPair (by decide) rfl (Nat.le_of_ble_eq_true rfl) (by decide) d_M_home_3 (fun r σ' hp => ?_)
  obtain ⟨rfl, b, rfl, hb⟩ := hp
  refine z_if_eq C 11 (by omega) d_M_home_6 (by decide) (fun h6 => ?_) (fun h6 => ?_)
  · obtain ⟨x, rfl⟩ := Int.eq_ofNat_of_zero_le (show 0 ≤ i by omega)
    obtain ⟨y, rfl⟩ := Int.eq_ofNat_of_zero_le (show 0 ≤ k by omega)
    have hsn := sn_r hI (i := x) (k := y) (by omega) (by omega)
    have e1 : sp_home s x y = if sn s x y < 0 then 3 else sn s x y / 12 := if_neg (by omega)
    refine z_aload_n C d_M_home_11 rfl ?_
    refine z_iload_n C d_M_home_12 rfl ?_
    refine z_iload_n C d_M_home_13 rfl ?_
    refine z_callV C hKl (cM_seen x y hF hI hM.1 (by omega) (by omega)) (zgood (fun _ h => h) tw_co_M_seen) rfl (hM.1.1) rfl tw_ml_M_111 tw_im_M_seen tw_se_M_seen tw_in_M pd_M_seen (by decide) rfl (Nat.le_of_ble_eq_true rfl) (by decide) d_M_home_14 (fun r σ' hp => ?_)
    obtain ⟨rfl, rfl⟩ := hp
    refine z_istore_n C d_M_home_17 (by decide) ?_
    refine z_iload_n C d_M_home_18 rfl ?_
    refine z_if_ge C 26 (by omega) d_M_home_19 (by decide) (fun h19 => ?_) (fun h19 => ?_)
    · refine z_iload_n C d_M_home_26 rfl ?_
      refine z_bipush C d_M_home_27 (by decide) ?_
      refine z_idiv C (by omega) (by omega) d_M_home_29 ?_
      exact z_iret C d_M_home_30 (by decide) (by decide) (by rw [e1, if_neg (by omega)]; exact ⟨rfl, rfl⟩)
    · refine z_iconst C d_M_home_22 ?_
      refine z_goto C 30 d_M_home_23 (by decide) ?_
      exact z_iret C d_M_home_30 (by decide) (by decide) (by rw [e1, if_pos (by omega)]; exact ⟨rfl, rfl⟩)
  · refine z_iconst C d_M_home_9 ?_
    exact z_iret C d_M_home_10 (by decide) (by decide) (by rw [show sp_home s i k = -1 from if_pos (by omega)]; exact ⟨rfl, rfl⟩)
set_option maxRecDepth 100000 in
set_option maxHeartbeats 4000000 in
theorem cM_count (w : Int) (hF : zFok F A) (hI : Inv s) (hM : RM cI cZ cJ m0 ad s σ) (rw : -2147483648 ≤ w ∧ w ≤ 2147483647) : zM l D vwCl A (ztys cI cZ cJ cB) F y_M_count ws_M_count (zroom 1 0 0) [.ref m0, iv w] σ (fun r σ' => σ' = σ ∧ r = some (iv (sp_count s w))) := by
  refine zMet2 hF (by decide) (Nat.le_of_ble_eq_true rfl) (fun K hKl C => ?_)
  have hM := mR.rf hM
  have hop := hI.op
  refine z_iload_n C d_M_count_0 rfl ?_
  by_cases c0 : w = 0
  · subst c0
    refine z_tableIn C 40 (by omega) d_M_count_1 (by omega) (by omega) (off := 39) (by decide) (by decide) ?_
    refine z_aload_n C d_M_count_40 rfl ?_
    refine m_get C hM in_M 1 (by decide) tw_fl_M_13 rfl rfl d_M_count_41 ?_
    exact z_iret C d_M_count_44 (by decide) (by decide) (⟨rfl, rfl⟩)
  by_cases c1 : w = 1
  · subst c1
    refine z_tableIn C 45 (by omega) d_M_count_1 (by omega) (by omega) (off := 44) (by decide) (by decide) ?_
    refine z_aload_n C d_M_count_45 rfl ?_
    refine m_get C hM in_M 23 (by decide) tw_fl_M_129 rfl rfl d_M_count_46 ?_
    exact z_iret C d_M_count_49 (by decide) (by decide) (⟨rfl, rfl⟩)
  by_cases c2 : w = 2
  · subst c2
    refine z_tableIn C 50 (by omega) d_M_count_1 (by omega) (by omega) (off := 49) (by decide) (by decide) ?_
    refine z_aload_n C d_M_count_50 rfl ?_
    refine m_get C hM in_M 5 (by decide) tw_fl_M_24 rfl rfl d_M_count_51 ?_
    refine z_callS C hKl (cM_filled (a := ad 5) (f := s 5) hF (fun j => by have := hI.kd j; omega) (hM.1.2.1 5 rfl)) (zgood (fun _ h => h) tw_co_M_filled) rfl tw_ml_M_104 tw_st_M_filled tw_in_M pd_M_filled (by decide) rfl (Nat.le_of_ble_eq_true rfl) (by decide) d_M_count_54 (fun r σ' hp => ?_)
    obtain ⟨rfl, rfl⟩ := hp
    exact z_iret C d_M_count_57 (by decide) (by decide) (⟨rfl, rfl⟩)
  by_cases c3 : w = 3
  · subst c3
    refine z_tableIn C 58 (by omega) d_M_count_1 (by omega) (by omega) (off := 57) (by decide) (by decide) ?_
    refine z_aload_n C d_M_count_58 rfl ?_
    refine m_get C hM in_M 11 (by decide) tw_fl_M_42 rfl rfl d_M_count_59 ?_
    refine z_callS C hKl (cM_filled (a := ad 11) (f := s 11) hF (fun j => by have := hI.si j; have := hI.md; omega) (hM.1.2.1 11 rfl)) (zgood (fun _ h => h) tw_co_M_filled) rfl tw_ml_M_104 tw_st_M_filled tw_in_M pd_M_filled (by decide) rfl (Nat.le_of_ble_eq_true rfl) (by decide) d_M_count_62 (fun r σ' hp => ?_)
    obtain ⟨rfl, rfl⟩ := hp
    exact z_iret C d_M_count_65 (by decide) (by decide) (⟨rfl, rfl⟩)
  by_cases c4 : w = 4
  · subst c4
    refine z_tableIn C 66 (by omega) d_M_count_1 (by omega) (by omega) (off := 65) (by decide) (by decide) ?_
    refine z_aload_n C d_M_count_66 rfl ?_
    refine m_get C hM in_M 12 (by decide) tw_fl_M_45 rfl rfl d_M_count_67 ?_
    refine z_callS C hKl (cM_filled (a := ad 12) (f := s 12) hF (fun j => by have := hI.re j; have := hI.md; omega) (hM.1.2.1 12 rfl)) (zgood (fun _ h => h) tw_co_M_filled) rfl tw_ml_M_104 tw_st_M_filled tw_in_M pd_M_filled (by decide) rfl (Nat.le_of_ble_eq_true rfl) (by decide) d_M_count_70 (fun r σ' hp => ?_)
    obtain ⟨rfl, rfl⟩ := hp
    exact z_iret C d_M_count_73 (by decide) (by decide) (⟨rfl, rfl⟩)
  by_cases c5 : w = 5
  · subst c5
    refine z_tableIn C 74 (by omega) d_M_count_1 (by omega) (by omega) (off := 73) (by decide) (by decide) ?_
    refine z_aload_n C d_M_count_74 rfl ?_
    refine m_get C hM in_M 15 (by decide) tw_fl_M_100 rfl rfl d_M_count_75 ?_
    refine z_if_eq C 85 (by omega) d_M_count_78 (by decide) (fun h78 => ?_) (fun h78 => ?_)
    · refine z_iconst C d_M_count_85 ?_
      exact z_iret C d_M_count_86 (by decide) (by decide) (by rw [show sp_count s 5 = 0 from h78]; exact ⟨rfl, rfl⟩)
    · refine z_iconst C d_M_count_81 ?_
      refine z_goto C 86 d_M_count_82 (by decide) ?_
      exact z_iret C d_M_count_86 (by decide) (by decide) (by rw [show sp_count s 5 = 1 from by show s 15 0 = 1; omega]; exact ⟨rfl, rfl⟩)
  refine z_tableOut C 87 (by omega) d_M_count_1 (by omega) (by decide) ?_
  refine z_iconst C d_M_count_87 ?_
  exact z_iret C d_M_count_88 (by decide) (by decide) (by rw [show sp_count s w = -1 from by unfold sp_count; rw [if_neg c0, if_neg c1, if_neg c2, if_neg c3, if_neg c4, if_neg c5]]; exact ⟨rfl, rfl⟩)
end MC2
end
section
section MC3
variable {l : Launch} {D : va_G} {A : Nat → Prop} {cI cZ cJ cB : ClassId} {F : State → Prop} {m0 : Nat} {ad : Nat → Nat} {σ : zh} {s : St}
set_option maxRecDepth 100000 in
set_option maxHeartbeats 4000000 in
theorem cM_bindClass (i k sc : Int) (hF : zFok F A) (hI : Inv s) (hM : RM cI cZ cJ m0 ad s σ) (ri : -2147483648 ≤ i ∧ i ≤ 2147483647) (rk : -2147483648 ≤ k ∧ k ≤ 2147483647) (rsc : -2147483648 ≤ sc ∧ sc ≤ 2147483647) : zM l D vwCl A (ztys cI cZ cJ cB) F y_M_bindClass ws_M_bindClass (zroom 2 0 0) [.ref m0, iv i, iv k, iv sc] σ (fun r σ' => r = some (iv (sp_bindClass s i k sc).1) ∧ mR cI cZ cJ m0 ad σ (sp_bindClass s i k sc).2 σ') := by
  refine zMet2 hF (by decide) (Nat.le_of_ble_eq_true rfl) (fun K hKl C => ?_)
  have hM := mR.rf hM
  have hinj := hI.inj
  have hbn := hI.bn
  have loop : ¬ (i < 0 ∨ s 1 0 ≤ i ∨ k < 0 ∨ 11 < k ∨ s 5 (pr i k) ≠ 0) → ¬ (sc < 0 ∨ 2 < sc) → ∀ (n j : Nat), j + n = (s 4 0).toNat → ∀ σ1 : zh, mR cI cZ cJ m0 ad σ (srow (srow (sup (sup (sup (sup s 5 (pr i k) 3) 6 (pr i k) 0) 7 (pr i k) sc) 8 (pr i k) (s 4 0)) 9 (cpn (s 9) (4 * pr i k) j (s 2))) 10 (cpn (s 10) (4 * pr i k) j (s 3))) σ1 → zJ K D vwCl A 6 (zQ K D vwCl A (fun r σ' => r = some (iv (sp_bindClass s i k sc).1) ∧ mR cI cZ cJ m0 ad σ (sp_bindClass s i k sc).2 σ') 0 0) 0 0 σ1 53 [some (.ref m0), some (iv i), some (iv k), some (iv sc), some (iv (12 * i + k)), some (iv (j : Int))] [] := by
    intro hbad hsc n
    have hpr : ((pr i k : Nat) : Int) = 12 * i + k := by unfold pr; omega
    induction n with
    | zero =>
      intro j hj σ1 hM
      have e : j = (s 4 0).toNat := by omega
      subst e
      refine z_iload C d_M_bindClass_53 rfl ?_
      refine z_aload_n C d_M_bindClass_55 rfl ?_
      refine m_get C hM in_M 4 (by decide) tw_fl_M_85 rfl rfl d_M_bindClass_56 ?_
      refine z_top (w := iv (s 4 0)) rfl ?_
      refine z_icmp_ge C 106 (by omega) (by omega) d_M_bindClass_59 (by decide) (fun h59 => ?_) (fun h59 => absurd h59 (by omega))
      refine z_aload_n C d_M_bindClass_106 rfl ?_
      refine z_callV C hKl (cM_drop hF hM.1) (zgood (fun _ h => h) tw_co_M_drop) rfl (hM.1.1) rfl tw_ml_M_96 tw_im_M_drop tw_se_M_drop tw_in_M pd_M_drop (by decide) rfl (Nat.le_of_ble_eq_true rfl) (by decide) d_M_bindClass_107 (fun r σ' hp => ?_)
      obtain ⟨rfl, hp⟩ := hp
      exact z_iret C d_M_bindClass_110 (by decide) (by decide) (by rw [show sp_bindClass s i k sc = (s 4 0, bcl s (pr i k) sc) from if_neg (by omega)]; exact ⟨rfl, hM.tr hp⟩)
    | succ n ih =>
      intro j hj σ1 hM
      have hbk := hI.bk j
      have hbz := hI.bz j
      refine z_iload C d_M_bindClass_53 rfl ?_
      refine z_aload_n C d_M_bindClass_55 rfl ?_
      refine m_get C hM in_M 4 (by decide) tw_fl_M_85 rfl rfl d_M_bindClass_56 ?_
      refine z_top (w := iv (s 4 0)) rfl ?_
      refine z_icmp_ge C 106 (by omega) (by omega) d_M_bindClass_59 (by decide) (fun h59 => absurd h59 (by omega)) (fun h59 => ?_)
      refine z_aload_n C d_M_bindClass_62 rfl ?_
      refine m_get C hM in_M 9 (by decide) tw_fl_M_36 rfl rfl d_M_bindClass_63 ?_
      refine z_iconst C d_M_bindClass_66 ?_
      refine z_iload C d_M_bindClass_67 rfl ?_
      refine z_imul C d_M_bindClass_69 ?_
      refine z_iload C d_M_bindClass_70 rfl ?_
      refine z_iadd C d_M_bindClass_72 ?_
      refine z_aload_n C d_M_bindClass_73 rfl ?_
      refine m_get C hM in_M 2 (by decide) tw_fl_M_17 rfl rfl d_M_bindClass_74 ?_
      refine z_iload C d_M_bindClass_77 rfl ?_
      refine m_iald C hM 2 rfl (n := 4) (fun _ => rfl) (j) (by omega) (by omega) (by decide) d_M_bindClass_79 ?_
      refine z_top (w := iv (s 2 j)) rfl ?_
      refine m_iast C hM 9 rfl (n := 144) (fun _ => rfl) (4 * pr i k + j) (by omega) (by omega) (by decide) d_M_bindClass_80 (fun σ hM => ?_)
      refine z_aload_n C d_M_bindClass_81 rfl ?_
      refine m_get C hM in_M 10 (by decide) tw_fl_M_39 rfl rfl d_M_bindClass_82 ?_
      refine z_iconst C d_M_bindClass_85 ?_
      refine z_iload C d_M_bindClass_86 rfl ?_
      refine z_imul C d_M_bindClass_88 ?_
      refine z_iload C d_M_bindClass_89 rfl ?_
      refine z_iadd C d_M_bindClass_91 ?_
      refine z_aload_n C d_M_bindClass_92 rfl ?_
      refine m_get C hM in_M 3 (by decide) tw_fl_M_20 rfl rfl d_M_bindClass_93 ?_
      refine z_iload C d_M_bindClass_96 rfl ?_
      refine m_zald C hM 3 rfl (n := 4) (fun _ => rfl) (j) (by omega) (by omega) (by decide) d_M_bindClass_98 ?_
      refine z_top (w := iv (s 3 j)) rfl ?_
      refine m_zast C hM 10 rfl (n := 144) (fun _ => rfl) (4 * pr i k + j) (by omega) (by omega) (by decide) (by omega) d_M_bindClass_99 (fun σ hM => ?_)
      rw [srow2_sup _ _ _ (by decide), cpn_1, cpn_1] at hM
      refine z_iinc C d_M_bindClass_100 rfl (by decide) ?_
      refine z_goto C 53 d_M_bindClass_103 (by decide) ?_
      exact ih (j + 1) (by omega) σ hM
  refine z_iload_n C d_M_bindClass_0 rfl ?_
  refine z_if_lt C 21 (by omega) d_M_bindClass_1 (by decide) (fun h1 => ?_) (fun h1 => ?_)
  · refine z_iconst C d_M_bindClass_21 ?_
    exact z_iret C d_M_bindClass_22 (by decide) (by decide) (by rw [show sp_bindClass s i k sc = (-1, s) from if_pos (by omega)]; exact ⟨rfl, hM⟩)
  · refine z_iload_n C d_M_bindClass_4 rfl ?_
    refine z_iconst C d_M_bindClass_5 ?_
    refine z_icmp_gt C 21 (by omega) (by omega) d_M_bindClass_6 (by decide) (fun h6 => ?_) (fun h6 => ?_)
    · refine z_iconst C d_M_bindClass_21 ?_
      exact z_iret C d_M_bindClass_22 (by decide) (by decide) (by rw [show sp_bindClass s i k sc = (-1, s) from if_pos (by omega)]; exact ⟨rfl, hM⟩)
    · refine z_aload_n C d_M_bindClass_9 rfl ?_
      refine z_iload_n C d_M_bindClass_10 rfl ?_
      refine z_iload_n C d_M_bindClass_11 rfl ?_
      refine z_iconst C d_M_bindClass_12 ?_
      refine z_iconst C d_M_bindClass_13 ?_
      refine z_callV C hKl (cM_bind i k 3 0 hF hI hM.1 ri rk (by omega) (by omega)) (zgood (fun _ h => h) tw_co_M_bind) rfl (hM.1.1) rfl tw_ml_M_92 tw_im_M_bind tw_se_M_bind tw_in_M pd_M_bind (by decide) rfl (Nat.le_of_ble_eq_true rfl) (by decide) d_M_bindClass_14 (fun r σ' hp => ?_)
      obtain ⟨rfl, hp⟩ := hp
      by_cases hbad : i < 0 ∨ s 1 0 ≤ i ∨ k < 0 ∨ 11 < k ∨ s 5 (pr i k) ≠ 0
      · rw [show sp_bind s i k 3 0 = (-1, s) from if_pos hbad] at hp ⊢
        have hM := hp
        refine z_iconst C d_M_bindClass_17 ?_
        refine z_icmp_ne C 23 (by omega) (by omega) d_M_bindClass_18 (by decide) (fun h18 => absurd h18 (by omega)) (fun h18 => ?_)
        refine z_iconst C d_M_bindClass_21 ?_
        exact z_iret C d_M_bindClass_22 (by decide) (by decide) (by rw [show sp_bindClass s i k sc = (-1, s) from if_pos (by omega)]; exact ⟨rfl, hM⟩)
      · rw [show sp_bind s i k 3 0 = (1, sup (sup s 5 (pr i k) 3) 6 (pr i k) 0) from if_neg hbad] at hp ⊢
        have hM := hp
        have hpr : ((pr i k : Nat) : Int) = 12 * i + k := by unfold pr; omega
        refine z_iconst C d_M_bindClass_17 ?_
        refine z_icmp_ne C 23 (by omega) (by omega) d_M_bindClass_18 (by decide) (fun h18 => ?_) (fun h18 => absurd h18 (by omega))
        refine z_bipush C d_M_bindClass_23 (by decide) ?_
        refine z_iload_n C d_M_bindClass_25 rfl ?_
        refine z_imul C d_M_bindClass_26 ?_
        refine z_iload_n C d_M_bindClass_27 rfl ?_
        refine z_iadd C d_M_bindClass_28 ?_
        refine z_istore C d_M_bindClass_29 (by decide) ?_
        refine z_aload_n C d_M_bindClass_31 rfl ?_
        refine m_get C hM in_M 7 (by decide) tw_fl_M_30 rfl rfl d_M_bindClass_32 ?_
        refine z_iload C d_M_bindClass_35 rfl ?_
        refine z_iload_n C d_M_bindClass_37 rfl ?_
        refine m_iast C hM 7 rfl (n := 36) (fun _ => rfl) (pr i k) (by omega) (by omega) (by decide) d_M_bindClass_38 (fun σ hM => ?_)
        refine z_aload_n C d_M_bindClass_39 rfl ?_
        refine m_get C hM in_M 8 (by decide) tw_fl_M_33 rfl rfl d_M_bindClass_40 ?_
        refine z_iload C d_M_bindClass_43 rfl ?_
        refine z_aload_n C d_M_bindClass_45 rfl ?_
        refine m_get C hM in_M 4 (by decide) tw_fl_M_85 rfl rfl d_M_bindClass_46 ?_
        refine z_top (w := iv (s 4 0)) rfl ?_
        refine m_iast C hM 8 rfl (n := 36) (fun _ => rfl) (pr i k) (by omega) (by omega) (by decide) d_M_bindClass_49 (fun σ hM => ?_)
        refine z_iconst C d_M_bindClass_50 ?_
        refine z_istore C d_M_bindClass_51 (by decide) ?_
        exact loop (by omega) (by omega) (s 4 0).toNat 0 (by omega) σ (by rw [cpn_0, cpn_0, show srow (srow (sup (sup (sup (sup s 5 (pr i k) 3) 6 (pr i k) 0) 7 (pr i k) sc) 8 (pr i k) (s 4 0)) 9 (s 9)) 10 (s 10) = (sup (sup (sup (sup s 5 (pr i k) 3) 6 (pr i k) 0) 7 (pr i k) sc) 8 (pr i k) (s 4 0)) from (congrArg (fun u => srow u 10 (s 10)) (srow_self (sup (sup (sup (sup s 5 (pr i k) 3) 6 (pr i k) 0) 7 (pr i k) sc) 8 (pr i k) (s 4 0)) 9)).trans (srow_self (sup (sup (sup (sup s 5 (pr i k) 3) 6 (pr i k) 0) 7 (pr i k) sc) 8 (pr i k) (s 4 0)) 10)]; exact hM)
set_option maxRecDepth 100000 in
set_option maxHeartbeats 4000000 in
theorem cM_working (p : Nat) (hF : zFok F A) (hI : Inv s) (hM : RM cI cZ cJ m0 ad s σ) (hp : p < 36) (hm : MI s) : zM l D vwCl A (ztys cI cZ cJ cB) F y_M_working ws_M_working (zroom 0 0 0) [.ref m0, iv (p : Int)] σ (fun r σ' => σ' = σ ∧ ∃ b : Int, r = some (iv b) ∧ ((b = 1 ∧ wkg s p = true) ∨ (b = 0 ∧ ¬ wkg s p = true))) := by
  refine zMet2 hF (by decide) (Nat.le_of_ble_eq_true rfl) (fun K hKl C => ?_)
  have hM := mR.rf hM
  have htop := hm.top
  have loop : ∀ (n k : Nat), ((k + n : Nat) : Int) = s 27 0 → (∀ j, j < k → s 24 j ≠ (p : Int)) → zJ K D vwCl A 3 (zQ K D vwCl A (fun r σ' => σ' = σ ∧ ∃ b : Int, r = some (iv b) ∧ ((b = 1 ∧ wkg s p = true) ∨ (b = 0 ∧ ¬ wkg s p = true))) 0 0) 0 0 σ 2 [some (.ref m0), some (iv (p : Int)), some (iv (k : Int))] [] := by
    intro n
    induction n with
    | zero =>
      intro k hk hno
      refine z_iload_n C d_M_working_2 rfl ?_
      refine z_aload_n C d_M_working_3 rfl ?_
      refine m_get C hM in_M 27 (by decide) tw_fl_M_108 rfl rfl d_M_working_4 ?_
      refine z_icmp_ge C 28 (by omega) (by omega) d_M_working_7 (by decide) (fun h7 => ?_) (fun h7 => absurd h7 (by omega))
      refine z_iconst C d_M_working_28 ?_
      exact z_zret C d_M_working_29 (by decide) (by decide) (by omega) (⟨rfl, 0, rfl, Or.inr ⟨rfl, fun z => by
        unfold wkg at z
        rw [List.any_eq_true] at z
        obtain ⟨j, hj, e⟩ := z
        exact hno j (by have := List.mem_range.mp hj; omega) (of_decide_eq_true e)⟩⟩)
    | succ n ih =>
      intro k hk hno
      have hfr := hm.fr (j := k) (by omega)
      have h1 := hfr.1
      have h2 := hfr.2.1
      refine z_iload_n C d_M_working_2 rfl ?_
      refine z_aload_n C d_M_working_3 rfl ?_
      refine m_get C hM in_M 27 (by decide) tw_fl_M_108 rfl rfl d_M_working_4 ?_
      refine z_icmp_ge C 28 (by omega) (by omega) d_M_working_7 (by decide) (fun h7 => absurd h7 (by omega)) (fun h7 => ?_)
      refine z_aload_n C d_M_working_10 rfl ?_
      refine m_get C hM in_M 24 (by decide) tw_fl_M_76 rfl rfl d_M_working_11 ?_
      refine z_iload_n C d_M_working_14 rfl ?_
      refine m_iald C hM 24 rfl (n := 36) (fun _ => rfl) (k) (by omega) (by omega) (by decide) d_M_working_15 ?_
      refine z_iload_n C d_M_working_16 rfl ?_
      refine z_icmp_ne C 22 (by omega) (by omega) d_M_working_17 (by decide) (fun h17 => ?_) (fun h17 => ?_)
      · refine z_iinc C d_M_working_22 rfl (by decide) ?_
        refine z_goto C 2 d_M_working_25 (by decide) ?_
        exact ih (k + 1) (by omega) (fun j hj => by
          by_cases e : j = k
          · rw [e]; exact h17
          · exact hno j (by omega))
      · refine z_iconst C d_M_working_20 ?_
        exact z_zret C d_M_working_21 (by decide) (by decide) (by omega) (⟨rfl, 1, rfl, Or.inl ⟨rfl, by
          unfold wkg
          rw [List.any_eq_true]
          exact ⟨k, List.mem_range.mpr (by omega), decide_eq_true h17⟩⟩⟩)
  refine z_iconst C d_M_working_0 ?_
  refine z_istore_n C d_M_working_1 (by decide) ?_
  obtain ⟨t, ht⟩ := Int.eq_ofNat_of_zero_le htop.1
  exact loop t 0 (by omega) (fun j hj => absurd hj (by omega))
end MC3
end
section
section MC4
variable {l : Launch} {D : va_G} {A : Nat → Prop} {cI cZ cJ cB : ClassId} {F : State → Prop} {m0 : Nat} {ad : Nat → Nat} {σ : zh} {s : St}
set_option maxRecDepth 100000 in
set_option maxHeartbeats 4000000 in
theorem cM_begin (i k : Nat) (hF : zFok F A) (hI : Inv s) (hM : RM cI cZ cJ m0 ad s σ) (hi : i < 3) (hk : k < 12) (hm : MI s) : zM l D vwCl A (ztys cI cZ cJ cB) F y_M_begin ws_M_begin (zroom 1 0 0) [.ref m0, iv (i : Int), iv (k : Int)] σ (fun r σ' => r = some (jv (mbegin s i k).1) ∧ mR cI cZ cJ m0 ad σ (mbegin s i k).2 σ') := by
  refine zMet2 hF (by decide) (Nat.le_of_ble_eq_true rfl) (fun K hKl C => ?_)
  have hM := mR.rf hM
  have htop := hm.top
  have hsr := sn_r hI hi hk
  refine z_aload_n C d_M_begin_0 rfl ?_
  refine z_iload_n C d_M_begin_1 rfl ?_
  refine z_iload_n C d_M_begin_2 rfl ?_
  refine z_callV C hKl (cM_seen i k hF hI hM.1 hi hk) (zgood (fun _ h => h) tw_co_M_seen) rfl (hM.1.1) rfl tw_ml_M_111 tw_im_M_seen tw_se_M_seen tw_in_M pd_M_seen (by decide) rfl (Nat.le_of_ble_eq_true rfl) (by decide) d_M_begin_3 (fun r σ hp => ?_)
  obtain ⟨rfl, rfl⟩ := hp
  refine z_istore_n C d_M_begin_6 (by decide) ?_
  refine z_iload_n C d_M_begin_7 rfl ?_
  refine z_if_ge C 15 (by omega) d_M_begin_8 (by decide) (fun h8 => ?_) (fun h8 => ?_)
  · obtain ⟨p, hp, e, h0, -⟩ := hI.seen hi hk (by omega)
    rw [e]
    have eb : mbegin s i k = mbeginp s p := by
      unfold mbegin
      rw [if_neg (by omega), e, Int.toNat_natCast]
    have hkd := hI.kd p
    have hsc := hI.sc p
    have hsi := hI.si p
    have hre := hI.re p
    have hmd := hI.md
    have hop := hI.op
    have hnu := hI.nu p
    unfold r32 at hnu
    have k165 : ¬ s 5 p = 1 → ¬ (s 5 p = 3 ∧ s 7 p = 1 ∧ s 11 p ≠ 0) → ¬ (s 5 p = 3 ∧ s 7 p = 2 ∧ s 15 0 ≠ 0 ∧ s 12 p ≠ 0) → ¬ wkg s p = true → ¬ (s 5 p = 3 ∧ s 7 p = 2 ∧ s 15 0 = 0) → zJ K D vwCl A 4 (zQ K D vwCl A (fun r σ' => r = some (jv (mbegin s i k).1) ∧ mR cI cZ cJ m0 ad σ (mbegin s i k).2 σ') 0 0) 0 0 σ 165 [some (.ref m0), some (iv (i : Int)), some (iv (k : Int)), some (iv (p : Int))] [] := by
      intro g1 g2 g3 g4 g5
      have hroom := hm.room hp g4
      refine z_aload_n C d_M_begin_165 rfl ?_
      refine m_get C hM in_M 24 (by decide) tw_fl_M_76 rfl rfl d_M_begin_166 ?_
      refine z_aload_n C d_M_begin_169 rfl ?_
      refine m_get C hM in_M 27 (by decide) tw_fl_M_108 rfl rfl d_M_begin_170 ?_
      refine z_iload_n C d_M_begin_173 rfl ?_
      refine m_iast C hM 24 rfl (n := 36) (fun _ => rfl) ((s 27 0).toNat) (by omega) (by omega) (by decide) d_M_begin_174 (fun σ hM => ?_)
      refine z_aload_n C d_M_begin_175 rfl ?_
      refine m_get C hM in_M 25 (by decide) tw_fl_M_79 rfl rfl d_M_begin_176 ?_
      refine z_aload_n C d_M_begin_179 rfl ?_
      refine m_get C hM in_M 27 (by decide) tw_fl_M_108 rfl rfl d_M_begin_180 ?_
      refine z_top (w := iv (s 27 0)) rfl ?_
      refine z_iconst C d_M_begin_183 ?_
      refine m_iast C hM 25 rfl (n := 36) (fun _ => rfl) ((s 27 0).toNat) (by omega) (by omega) (by decide) d_M_begin_184 (fun σ hM => ?_)
      refine z_aload_n C d_M_begin_185 rfl ?_
      refine z_dup C rfl d_M_begin_186 ?_
      refine m_get C hM in_M 27 (by decide) tw_fl_M_108 rfl rfl d_M_begin_187 ?_
      refine z_top (w := iv (s 27 0)) rfl ?_
      refine z_iconst C d_M_begin_190 ?_
      refine z_iadd C d_M_begin_191 ?_
      refine m_put C hM in_M 27 (by decide) rfl tw_fl_M_108 rfl rfl (tk_M 27 (by decide)) rfl rfl rfl d_M_begin_192 (fun σ hM => ?_)
      refine z_ldc2 C (-100) tw_kl_M_127 d_M_begin_195 ?_
      exact z_lret C d_M_begin_198 (by decide) (by decide) (by rw [eb]; unfold mbeginp; rw [if_neg g1, if_neg g2, if_neg g3, if_neg g4, if_neg g5]; exact ⟨rfl, hM⟩)
    have k134 : ¬ s 5 p = 1 → ¬ (s 5 p = 3 ∧ s 7 p = 1 ∧ s 11 p ≠ 0) → ¬ (s 5 p = 3 ∧ s 7 p = 2 ∧ s 15 0 ≠ 0 ∧ s 12 p ≠ 0) → ¬ wkg s p = true → zJ K D vwCl A 4 (zQ K D vwCl A (fun r σ' => r = some (jv (mbegin s i k).1) ∧ mR cI cZ cJ m0 ad σ (mbegin s i k).2 σ') 0 0) 0 0 σ 134 [some (.ref m0), some (iv (i : Int)), some (iv (k : Int)), some (iv (p : Int))] [] := by
      intro g1 g2 g3 g4
      refine z_aload_n C d_M_begin_134 rfl ?_
      refine m_get C hM in_M 5 (by decide) tw_fl_M_24 rfl rfl d_M_begin_135 ?_
      refine z_iload_n C d_M_begin_138 rfl ?_
      refine m_iald C hM 5 rfl (n := 36) (fun _ => rfl) (p) (by omega) (by omega) (by decide) d_M_begin_139 ?_
      refine z_iconst C d_M_begin_140 ?_
      refine z_icmp_ne C 165 (by omega) (by omega) d_M_begin_141 (by decide) (fun h141 => ?_) (fun h141 => ?_)
      · exact k165 g1 g2 g3 g4 (by omega)
      · refine z_aload_n C d_M_begin_144 rfl ?_
        refine m_get C hM in_M 7 (by decide) tw_fl_M_30 rfl rfl d_M_begin_145 ?_
        refine z_iload_n C d_M_begin_148 rfl ?_
        refine m_iald C hM 7 rfl (n := 36) (fun _ => rfl) (p) (by omega) (by omega) (by decide) d_M_begin_149 ?_
        refine z_iconst C d_M_begin_150 ?_
        refine z_icmp_ne C 165 (by omega) (by omega) d_M_begin_151 (by decide) (fun h151 => ?_) (fun h151 => ?_)
        · exact k165 g1 g2 g3 g4 (by omega)
        · refine z_aload_n C d_M_begin_154 rfl ?_
          refine m_get C hM in_M 15 (by decide) tw_fl_M_100 rfl rfl d_M_begin_155 ?_
          refine z_if_ne C 165 (by omega) d_M_begin_158 (by decide) (fun h158 => ?_) (fun h158 => ?_)
          · exact k165 g1 g2 g3 g4 (by omega)
          · refine z_ldc2 C (-4) tw_kl_M_125 d_M_begin_161 ?_
            exact z_lret C d_M_begin_164 (by decide) (by decide) (by rw [eb]; unfold mbeginp; rw [if_neg g1, if_neg g2, if_neg g3, if_neg g4, if_pos (by omega)]; exact ⟨rfl, hM⟩)
    have k122 : ¬ s 5 p = 1 → ¬ (s 5 p = 3 ∧ s 7 p = 1 ∧ s 11 p ≠ 0) → ¬ (s 5 p = 3 ∧ s 7 p = 2 ∧ s 15 0 ≠ 0 ∧ s 12 p ≠ 0) → zJ K D vwCl A 4 (zQ K D vwCl A (fun r σ' => r = some (jv (mbegin s i k).1) ∧ mR cI cZ cJ m0 ad σ (mbegin s i k).2 σ') 0 0) 0 0 σ 122 [some (.ref m0), some (iv (i : Int)), some (iv (k : Int)), some (iv (p : Int))] [] := by
      intro g1 g2 g3
      refine z_aload_n C d_M_begin_122 rfl ?_
      refine z_iload_n C d_M_begin_123 rfl ?_
      refine z_callV C hKl (cM_working p hF hI hM.1 hp hm) (zgood (fun _ h => h) tw_co_M_working) rfl (hM.1.1) rfl tw_ml_M_119 tw_im_M_working tw_se_M_working tw_in_M pd_M_working (by decide) rfl (Nat.le_of_ble_eq_true rfl) (by decide) d_M_begin_124 (fun r σ hq => ?_)
      obtain ⟨rfl, b, rfl, hb⟩ := hq
      refine z_if_eq C 134 (by rcases hb with q | q <;> (have := q.1; omega)) d_M_begin_127 (by decide) (fun h127 => ?_) (fun h127 => ?_)
      · exact k134 g1 g2 g3 (by rcases hb with q | q; exact absurd q.1 (by omega); exact q.2)
      · refine z_ldc2 C (-3) tw_kl_M_123 d_M_begin_130 ?_
        exact z_lret C d_M_begin_133 (by decide) (by decide) (by rw [eb]; unfold mbeginp; rw [if_neg g1, if_neg g2, if_neg g3, if_pos (by rcases hb with q | q; exact q.2; exact absurd q.1 h127)]; exact ⟨rfl, hM⟩)
    have k76 : ¬ s 5 p = 1 → ¬ (s 5 p = 3 ∧ s 7 p = 1 ∧ s 11 p ≠ 0) → zJ K D vwCl A 4 (zQ K D vwCl A (fun r σ' => r = some (jv (mbegin s i k).1) ∧ mR cI cZ cJ m0 ad σ (mbegin s i k).2 σ') 0 0) 0 0 σ 76 [some (.ref m0), some (iv (i : Int)), some (iv (k : Int)), some (iv (p : Int))] [] := by
      intro g1 g2
      refine z_aload_n C d_M_begin_76 rfl ?_
      refine m_get C hM in_M 5 (by decide) tw_fl_M_24 rfl rfl d_M_begin_77 ?_
      refine z_iload_n C d_M_begin_80 rfl ?_
      refine m_iald C hM 5 rfl (n := 36) (fun _ => rfl) (p) (by omega) (by omega) (by decide) d_M_begin_81 ?_
      refine z_iconst C d_M_begin_82 ?_
      refine z_icmp_ne C 122 (by omega) (by omega) d_M_begin_83 (by decide) (fun h83 => ?_) (fun h83 => ?_)
      · exact k122 g1 g2 (by omega)
      · refine z_aload_n C d_M_begin_86 rfl ?_
        refine m_get C hM in_M 7 (by decide) tw_fl_M_30 rfl rfl d_M_begin_87 ?_
        refine z_iload_n C d_M_begin_90 rfl ?_
        refine m_iald C hM 7 rfl (n := 36) (fun _ => rfl) (p) (by omega) (by omega) (by decide) d_M_begin_91 ?_
        refine z_iconst C d_M_begin_92 ?_
        refine z_icmp_ne C 122 (by omega) (by omega) d_M_begin_93 (by decide) (fun h93 => ?_) (fun h93 => ?_)
        · exact k122 g1 g2 (by omega)
        · refine z_aload_n C d_M_begin_96 rfl ?_
          refine m_get C hM in_M 15 (by decide) tw_fl_M_100 rfl rfl d_M_begin_97 ?_
          refine z_if_eq C 122 (by omega) d_M_begin_100 (by decide) (fun h100 => ?_) (fun h100 => ?_)
          · exact k122 g1 g2 (by omega)
          · refine z_aload_n C d_M_begin_103 rfl ?_
            refine m_get C hM in_M 12 (by decide) tw_fl_M_45 rfl rfl d_M_begin_104 ?_
            refine z_iload_n C d_M_begin_107 rfl ?_
            refine m_iald C hM 12 rfl (n := 36) (fun _ => rfl) (p) (by omega) (by omega) (by decide) d_M_begin_108 ?_
            refine z_if_eq C 122 (by omega) d_M_begin_109 (by decide) (fun h109 => ?_) (fun h109 => ?_)
            · exact k122 g1 g2 (by omega)
            · refine z_aload_n C d_M_begin_112 rfl ?_
              refine m_get C hM in_M 12 (by decide) tw_fl_M_45 rfl rfl d_M_begin_113 ?_
              refine z_iload_n C d_M_begin_116 rfl ?_
              refine m_iald C hM 12 rfl (n := 36) (fun _ => rfl) (p) (by omega) (by omega) (by decide) d_M_begin_117 ?_
              refine z_iconst C d_M_begin_118 ?_
              refine z_isub C d_M_begin_119 ?_
              refine z_i2l C (by omega) d_M_begin_120 ?_
              exact z_lret C d_M_begin_121 (by decide) (by decide) (by rw [eb]; unfold mbeginp; rw [if_neg g1, if_neg g2, if_pos ⟨by omega, by omega, by omega, by omega⟩]; exact ⟨rfl, hM⟩)
    refine z_aload_n C d_M_begin_15 rfl ?_
    refine m_get C hM in_M 5 (by decide) tw_fl_M_24 rfl rfl d_M_begin_16 ?_
    refine z_iload_n C d_M_begin_19 rfl ?_
    refine m_iald C hM 5 rfl (n := 36) (fun _ => rfl) (p) (by omega) (by omega) (by decide) d_M_begin_20 ?_
    refine z_iconst C d_M_begin_21 ?_
    refine z_icmp_ne C 37 (by omega) (by omega) d_M_begin_22 (by decide) (fun h22 => ?_) (fun h22 => ?_)
    · refine z_aload_n C d_M_begin_37 rfl ?_
      refine m_get C hM in_M 5 (by decide) tw_fl_M_24 rfl rfl d_M_begin_38 ?_
      refine z_iload_n C d_M_begin_41 rfl ?_
      refine m_iald C hM 5 rfl (n := 36) (fun _ => rfl) (p) (by omega) (by omega) (by decide) d_M_begin_42 ?_
      refine z_iconst C d_M_begin_43 ?_
      refine z_icmp_ne C 76 (by omega) (by omega) d_M_begin_44 (by decide) (fun h44 => ?_) (fun h44 => ?_)
      · exact k76 (by omega) (by omega)
      · refine z_aload_n C d_M_begin_47 rfl ?_
        refine m_get C hM in_M 7 (by decide) tw_fl_M_30 rfl rfl d_M_begin_48 ?_
        refine z_iload_n C d_M_begin_51 rfl ?_
        refine m_iald C hM 7 rfl (n := 36) (fun _ => rfl) (p) (by omega) (by omega) (by decide) d_M_begin_52 ?_
        refine z_iconst C d_M_begin_53 ?_
        refine z_icmp_ne C 76 (by omega) (by omega) d_M_begin_54 (by decide) (fun h54 => ?_) (fun h54 => ?_)
        · exact k76 (by omega) (by omega)
        · refine z_aload_n C d_M_begin_57 rfl ?_
          refine m_get C hM in_M 11 (by decide) tw_fl_M_42 rfl rfl d_M_begin_58 ?_
          refine z_iload_n C d_M_begin_61 rfl ?_
          refine m_iald C hM 11 rfl (n := 36) (fun _ => rfl) (p) (by omega) (by omega) (by decide) d_M_begin_62 ?_
          refine z_if_eq C 76 (by omega) d_M_begin_63 (by decide) (fun h63 => ?_) (fun h63 => ?_)
          · exact k76 (by omega) (by omega)
          · refine z_aload_n C d_M_begin_66 rfl ?_
            refine m_get C hM in_M 11 (by decide) tw_fl_M_42 rfl rfl d_M_begin_67 ?_
            refine z_iload_n C d_M_begin_70 rfl ?_
            refine m_iald C hM 11 rfl (n := 36) (fun _ => rfl) (p) (by omega) (by omega) (by decide) d_M_begin_71 ?_
            refine z_iconst C d_M_begin_72 ?_
            refine z_isub C d_M_begin_73 ?_
            refine z_i2l C (by omega) d_M_begin_74 ?_
            exact z_lret C d_M_begin_75 (by decide) (by decide) (by rw [eb]; unfold mbeginp; rw [if_neg (by omega), if_pos ⟨by omega, by omega, by omega⟩]; exact ⟨rfl, hM⟩)
    · refine z_ldc2 C 10000000000 tw_kl_M_117 d_M_begin_25 ?_
      refine z_aload_n C d_M_begin_28 rfl ?_
      refine m_get C hM in_M 6 (by decide) tw_fl_M_27 rfl rfl d_M_begin_29 ?_
      refine z_iload_n C d_M_begin_32 rfl ?_
      refine m_iald C hM 6 rfl (n := 36) (fun _ => rfl) (p) (by omega) (by omega) (by decide) d_M_begin_33 ?_
      refine z_i2l C (by omega) d_M_begin_34 ?_
      refine z_ladd C d_M_begin_35 ?_
      exact z_lret C d_M_begin_36 (by decide) (by decide) (by rw [eb]; unfold mbeginp; rw [if_pos h22]; exact ⟨rfl, hM⟩)
  · refine z_ldc2 C (-2) tw_kl_M_115 d_M_begin_11 ?_
    exact z_lret C d_M_begin_14 (by decide) (by decide) (by rw [show mbegin s i k = (-2, s) from if_pos (by omega)]; exact ⟨rfl, hM⟩)
set_option maxRecDepth 100000 in
set_option maxHeartbeats 4000000 in
theorem cM_took (v bf : Int) (hF : zFok F A) (hI : Inv s) (hM : RM cI cZ cJ m0 ad s σ) (hm : MI s) (ht : 0 < s 27 0) (rb : -2147483648 ≤ bf ∧ bf ≤ 2147483647) : zM l D vwCl A (ztys cI cZ cJ cB) F y_M_took ws_M_took (zroom 0 0 0) [.ref m0, jv v, iv bf] σ (fun r σ' => ∃ b : Int, r = some (iv b) ∧ ((b = 1 ∧ (s 27 0 = bf ∧ s 5 (s 24 (s 27 0 - 1).toNat).toNat = 2 ∧ s 25 (s 27 0 - 1).toNat = 0) ∧ mR cI cZ cJ m0 ad σ (mtk s v) σ') ∨ (b = 0 ∧ ¬ (s 27 0 = bf ∧ s 5 (s 24 (s 27 0 - 1).toNat).toNat = 2 ∧ s 25 (s 27 0 - 1).toNat = 0) ∧ mR cI cZ cJ m0 ad σ s σ'))) := by
  refine zMet2 hF (by decide) (Nat.le_of_ble_eq_true rfl) (fun K hKl C => ?_)
  have hM := mR.rf hM
  have htop := hm.top
  obtain ⟨f1, f2, -⟩ := hm.fr (j := (s 27 0 - 1).toNat) (by omega)
  have hkd := hI.kd (s 24 (s 27 0 - 1).toNat).toNat
  have hgt := hm.got (j := (s 27 0 - 1).toNat) (by omega)
  refine z_aload_n C d_M_took_0 rfl ?_
  refine m_get C hM in_M 27 (by decide) tw_fl_M_108 rfl rfl d_M_took_1 ?_
  refine z_iload_n C d_M_took_4 rfl ?_
  refine z_icmp_ne C 42 (by omega) (by omega) d_M_took_5 (by decide) (fun h5 => ?_) (fun h5 => ?_)
  · refine z_iconst C d_M_took_42 ?_
    exact z_zret C d_M_took_43 (by decide) (by decide) (by omega) (⟨0, rfl, Or.inr ⟨rfl, fun z => h5 z.1, hM⟩⟩)
  · refine z_aload_n C d_M_took_8 rfl ?_
    refine m_get C hM in_M 5 (by decide) tw_fl_M_24 rfl rfl d_M_took_9 ?_
    refine z_aload_n C d_M_took_12 rfl ?_
    refine m_get C hM in_M 24 (by decide) tw_fl_M_76 rfl rfl d_M_took_13 ?_
    refine z_aload_n C d_M_took_16 rfl ?_
    refine m_get C hM in_M 27 (by decide) tw_fl_M_108 rfl rfl d_M_took_17 ?_
    refine z_iconst C d_M_took_20 ?_
    refine z_isub C d_M_took_21 ?_
    refine m_iald C hM 24 rfl (n := 36) (fun _ => rfl) ((s 27 0 - 1).toNat) (by omega) (by omega) (by decide) d_M_took_22 ?_
    refine m_iald C hM 5 rfl (n := 36) (fun _ => rfl) ((s 24 (s 27 0 - 1).toNat).toNat) (by omega) (by omega) (by decide) d_M_took_23 ?_
    refine z_iconst C d_M_took_24 ?_
    refine z_icmp_ne C 42 (by omega) (by omega) d_M_took_25 (by decide) (fun h25 => ?_) (fun h25 => ?_)
    · refine z_iconst C d_M_took_42 ?_
      exact z_zret C d_M_took_43 (by decide) (by decide) (by omega) (⟨0, rfl, Or.inr ⟨rfl, fun z => h25 z.2.1, hM⟩⟩)
    · refine z_aload_n C d_M_took_28 rfl ?_
      refine m_get C hM in_M 25 (by decide) tw_fl_M_79 rfl rfl d_M_took_29 ?_
      refine z_aload_n C d_M_took_32 rfl ?_
      refine m_get C hM in_M 27 (by decide) tw_fl_M_108 rfl rfl d_M_took_33 ?_
      refine z_iconst C d_M_took_36 ?_
      refine z_isub C d_M_took_37 ?_
      refine m_iald C hM 25 rfl (n := 36) (fun _ => rfl) ((s 27 0 - 1).toNat) (by omega) (by omega) (by decide) d_M_took_38 ?_
      refine z_if_eq C 44 (by omega) d_M_took_39 (by decide) (fun h39 => ?_) (fun h39 => ?_)
      · refine z_aload_n C d_M_took_44 rfl ?_
        refine m_get C hM in_M 26 (by decide) tw_fl_M_82 rfl rfl d_M_took_45 ?_
        refine z_iconst C d_M_took_48 ?_
        refine z_aload_n C d_M_took_49 rfl ?_
        refine m_get C hM in_M 27 (by decide) tw_fl_M_108 rfl rfl d_M_took_50 ?_
        refine z_top (w := iv (s 27 0)) rfl ?_
        refine z_iconst C d_M_took_53 ?_
        refine z_isub C d_M_took_54 ?_
        refine z_imul C d_M_took_55 ?_
        refine z_lload_n C d_M_took_56 rfl ?_
        refine m_last C hM 26 rfl (n := 144) (fun _ => rfl) (4 * (s 27 0 - 1).toNat) (by omega) (by omega) (by decide) d_M_took_57 (fun σ hM => ?_)
        refine z_aload_n C d_M_took_58 rfl ?_
        refine m_get C hM in_M 25 (by decide) tw_fl_M_79 rfl rfl d_M_took_59 ?_
        refine z_aload_n C d_M_took_62 rfl ?_
        refine m_get C hM in_M 27 (by decide) tw_fl_M_108 rfl rfl d_M_took_63 ?_
        refine z_top (w := iv (s 27 0)) rfl ?_
        refine z_iconst C d_M_took_66 ?_
        refine z_isub C d_M_took_67 ?_
        refine z_iconst C d_M_took_68 ?_
        refine m_iast C hM 25 rfl (n := 36) (fun _ => rfl) ((s 27 0 - 1).toNat) (by omega) (by omega) (by decide) d_M_took_69 (fun σ hM => ?_)
        refine z_iconst C d_M_took_70 ?_
        exact z_zret C d_M_took_71 (by decide) (by decide) (by omega) (⟨1, rfl, Or.inl ⟨rfl, ⟨h5, h25, h39⟩, hM⟩⟩)
      · refine z_iconst C d_M_took_42 ?_
        exact z_zret C d_M_took_43 (by decide) (by decide) (by omega) (⟨0, rfl, Or.inr ⟨rfl, fun z => h39 z.2.2, hM⟩⟩)
set_option maxRecDepth 100000 in
set_option maxHeartbeats 4000000 in
theorem cM_make (p w : Nat) (hF : zFok F A) (hI : Inv s) (hM : RM cI cZ cJ m0 ad s σ) (hp : p < 36) (hw : w < 36) : zM l D vwCl A (ztys cI cZ cJ cB) F y_M_make ws_M_make (zroom 0 0 0) [.ref m0, iv (p : Int), iv (w : Int)] σ (fun r σ' => r = some (jv (mmake s p w).1) ∧ mR cI cZ cJ m0 ad σ (mmake s p w).2 σ') := by
  refine zMet2 hF (by decide) (Nat.le_of_ble_eq_true rfl) (fun K hKl C => ?_)
  have hM := mR.rf hM
  have hmd := hI.md
  have hnn := hI.nn p
  have hsc := hI.sc p
  have loop : s 23 0 ≠ 100 → ∀ (n j : Nat), j + n = (s 8 p).toNat → ∀ (σ1 : zh), mR cI cZ cJ m0 ad σ (mk2 s p w j) σ1 → zJ K D vwCl A 5 (zQ K D vwCl A (fun r σ' => r = some (jv (mmake s p w).1) ∧ mR cI cZ cJ m0 ad σ (mmake s p w).2 σ') 0 0) 0 0 σ1 65 [some (.ref m0), some (iv (p : Int)), some (iv (w : Int)), some (iv (s 23 0)), some (iv (j : Int))] [] := by
    intro hne n
    have em : mmake s p w = (s 23 0, mk s p (fun k => s 26 (4 * w + k))) := if_neg hne
    induction n with
    | zero =>
      intro j hj σ1 hM
      have e : j = (s 8 p).toNat := by omega
      subst e
      refine z_iload C d_M_make_65 rfl ?_
      refine z_aload_n C d_M_make_67 rfl ?_
      refine m_get C hM in_M 8 (by decide) tw_fl_M_33 rfl rfl d_M_make_68 ?_
      refine z_iload_n C d_M_make_71 rfl ?_
      refine m_iald C hM 8 rfl (n := 36) (fun _ => rfl) (p) (by omega) (by omega) (by decide) d_M_make_72 ?_
      refine z_top (w := iv (s 8 p)) rfl ?_
      refine z_icmp_ge C 148 (by omega) (by omega) d_M_make_73 (by decide) (fun h73 => ?_) (fun h73 => absurd h73 (by omega))
      refine z_aload_n C d_M_make_148 rfl ?_
      refine z_dup C rfl d_M_make_149 ?_
      refine m_get C hM in_M 23 (by decide) tw_fl_M_129 rfl rfl d_M_make_150 ?_
      refine z_top (w := iv (s 23 0)) rfl ?_
      refine z_iconst C d_M_make_153 ?_
      refine z_iadd C d_M_make_154 ?_
      refine m_put C hM in_M 23 (by decide) rfl tw_fl_M_129 rfl rfl (tk_M 23 (by decide)) rfl rfl rfl d_M_make_155 (fun σ hM => ?_)
      have hM : mR cI cZ cJ m0 ad _ (mk3 s p w) σ := hM
      refine z_aload_n C d_M_make_158 rfl ?_
      refine m_get C hM in_M 7 (by decide) tw_fl_M_30 rfl rfl d_M_make_159 ?_
      refine z_iload_n C d_M_make_162 rfl ?_
      refine m_iald C hM 7 rfl (n := 36) (fun _ => rfl) (p) (by omega) (by omega) (by decide) d_M_make_163 ?_
      refine z_top (w := iv (s 7 p)) rfl ?_
      refine z_iconst C d_M_make_164 ?_
      refine z_icmp_ne C 178 (by omega) (by omega) d_M_make_165 (by decide) (fun h165 => ?_) (fun h165 => ?_)
      · refine z_aload_n C d_M_make_178 rfl ?_
        refine m_get C hM in_M 7 (by decide) tw_fl_M_30 rfl rfl d_M_make_179 ?_
        refine z_iload_n C d_M_make_182 rfl ?_
        refine m_iald C hM 7 rfl (n := 36) (fun _ => rfl) (p) (by omega) (by omega) (by decide) d_M_make_183 ?_
        refine z_top (w := iv (s 7 p)) rfl ?_
        refine z_iconst C d_M_make_184 ?_
        refine z_icmp_ne C 198 (by omega) (by omega) d_M_make_185 (by decide) (fun h185 => ?_) (fun h185 => ?_)
        · refine z_iload_n C d_M_make_198 rfl ?_
          refine z_i2l C (by omega) d_M_make_199 ?_
          exact z_lret C d_M_make_200 (by decide) (by decide) (by rw [em, ← mk3_n h165 h185]; exact ⟨rfl, hM⟩)
        · refine z_aload_n C d_M_make_188 rfl ?_
          refine m_get C hM in_M 12 (by decide) tw_fl_M_45 rfl rfl d_M_make_189 ?_
          refine z_iload_n C d_M_make_192 rfl ?_
          refine z_aload_n C d_M_make_193 rfl ?_
          refine m_get C hM in_M 23 (by decide) tw_fl_M_129 rfl rfl d_M_make_194 ?_
          refine z_top (w := iv (s 23 0 + 1)) rfl ?_
          refine m_iast C hM 12 rfl (n := 36) (fun _ => rfl) (p) (by omega) (by omega) (by decide) d_M_make_197 (fun σ hM => ?_)
          refine z_iload_n C d_M_make_198 rfl ?_
          refine z_i2l C (by omega) d_M_make_199 ?_
          exact z_lret C d_M_make_200 (by decide) (by decide) (by rw [em, ← mk3_2 h185]; exact ⟨rfl, hM⟩)
      · refine z_aload_n C d_M_make_168 rfl ?_
        refine m_get C hM in_M 11 (by decide) tw_fl_M_42 rfl rfl d_M_make_169 ?_
        refine z_iload_n C d_M_make_172 rfl ?_
        refine z_aload_n C d_M_make_173 rfl ?_
        refine m_get C hM in_M 23 (by decide) tw_fl_M_129 rfl rfl d_M_make_174 ?_
        refine z_top (w := iv (s 23 0 + 1)) rfl ?_
        refine m_iast C hM 11 rfl (n := 36) (fun _ => rfl) (p) (by omega) (by omega) (by decide) d_M_make_177 (fun σ hM => ?_)
        refine z_aload_n C d_M_make_178 rfl ?_
        refine m_get C hM in_M 7 (by decide) tw_fl_M_30 rfl rfl d_M_make_179 ?_
        refine z_iload_n C d_M_make_182 rfl ?_
        refine m_iald C hM 7 rfl (n := 36) (fun _ => rfl) (p) (by omega) (by omega) (by decide) d_M_make_183 ?_
        refine z_top (w := iv (s 7 p)) rfl ?_
        refine z_iconst C d_M_make_184 ?_
        refine z_icmp_ne C 198 (by omega) (by omega) d_M_make_185 (by decide) (fun h185 => ?_) (fun h185 => absurd h185 (by omega))
        refine z_iload_n C d_M_make_198 rfl ?_
        refine z_i2l C (by omega) d_M_make_199 ?_
        exact z_lret C d_M_make_200 (by decide) (by decide) (by rw [em, ← mk3_1 h165]; exact ⟨rfl, hM⟩)
    | succ n ih =>
      intro j hj σ1 hM
      have hnk := hI.nk (4 * p + j)
      have hnz := hI.nz (4 * p + j)
      refine z_iload C d_M_make_65 rfl ?_
      refine z_aload_n C d_M_make_67 rfl ?_
      refine m_get C hM in_M 8 (by decide) tw_fl_M_33 rfl rfl d_M_make_68 ?_
      refine z_iload_n C d_M_make_71 rfl ?_
      refine m_iald C hM 8 rfl (n := 36) (fun _ => rfl) (p) (by omega) (by omega) (by decide) d_M_make_72 ?_
      refine z_top (w := iv (s 8 p)) rfl ?_
      refine z_icmp_ge C 148 (by omega) (by omega) d_M_make_73 (by decide) (fun h73 => absurd h73 (by omega)) (fun h73 => ?_)
      refine z_aload_n C d_M_make_76 rfl ?_
      refine m_get C hM in_M 20 (by decide) tw_fl_M_66 rfl rfl d_M_make_77 ?_
      refine z_iconst C d_M_make_80 ?_
      refine z_iload_n C d_M_make_81 rfl ?_
      refine z_imul C d_M_make_82 ?_
      refine z_iload C d_M_make_83 rfl ?_
      refine z_iadd C d_M_make_85 ?_
      refine z_aload_n C d_M_make_86 rfl ?_
      refine m_get C hM in_M 9 (by decide) tw_fl_M_36 rfl rfl d_M_make_87 ?_
      refine z_iconst C d_M_make_90 ?_
      refine z_iload_n C d_M_make_91 rfl ?_
      refine z_imul C d_M_make_92 ?_
      refine z_iload C d_M_make_93 rfl ?_
      refine z_iadd C d_M_make_95 ?_
      refine m_iald C hM 9 rfl (n := 144) (fun _ => rfl) (4 * p + j) (by omega) (by omega) (by decide) d_M_make_96 ?_
      refine z_top (w := iv (s 9 (4 * p + j))) rfl ?_
      refine m_iast C hM 20 rfl (n := 400) (fun _ => rfl) (4 * (s 23 0).toNat + j) (by omega) (by omega) (by decide) d_M_make_97 (fun σ hM => ?_)
      refine z_aload_n C d_M_make_98 rfl ?_
      refine m_get C hM in_M 21 (by decide) tw_fl_M_69 rfl rfl d_M_make_99 ?_
      refine z_iconst C d_M_make_102 ?_
      refine z_iload_n C d_M_make_103 rfl ?_
      refine z_imul C d_M_make_104 ?_
      refine z_iload C d_M_make_105 rfl ?_
      refine z_iadd C d_M_make_107 ?_
      refine z_aload_n C d_M_make_108 rfl ?_
      refine m_get C hM in_M 10 (by decide) tw_fl_M_39 rfl rfl d_M_make_109 ?_
      refine z_iconst C d_M_make_112 ?_
      refine z_iload_n C d_M_make_113 rfl ?_
      refine z_imul C d_M_make_114 ?_
      refine z_iload C d_M_make_115 rfl ?_
      refine z_iadd C d_M_make_117 ?_
      refine m_zald C hM 10 rfl (n := 144) (fun _ => rfl) (4 * p + j) (by omega) (by omega) (by decide) d_M_make_118 ?_
      refine z_top (w := iv (s 10 (4 * p + j))) rfl ?_
      refine m_zast C hM 21 rfl (n := 400) (fun _ => rfl) (4 * (s 23 0).toNat + j) (by omega) (by omega) (by decide) (by omega) d_M_make_119 (fun σ hM => ?_)
      refine z_aload_n C d_M_make_120 rfl ?_
      refine m_get C hM in_M 22 (by decide) tw_fl_M_72 rfl rfl d_M_make_121 ?_
      refine z_iconst C d_M_make_124 ?_
      refine z_iload_n C d_M_make_125 rfl ?_
      refine z_imul C d_M_make_126 ?_
      refine z_iload C d_M_make_127 rfl ?_
      refine z_iadd C d_M_make_129 ?_
      refine z_aload_n C d_M_make_130 rfl ?_
      refine m_get C hM in_M 26 (by decide) tw_fl_M_82 rfl rfl d_M_make_131 ?_
      refine z_iconst C d_M_make_134 ?_
      refine z_iload_n C d_M_make_135 rfl ?_
      refine z_imul C d_M_make_136 ?_
      refine z_iload C d_M_make_137 rfl ?_
      refine z_iadd C d_M_make_139 ?_
      refine m_lald C hM 26 rfl (n := 144) (fun _ => rfl) (4 * w + j) (by omega) (by omega) (by decide) d_M_make_140 ?_
      refine z_top (w := jv (s 26 (4 * w + j))) rfl ?_
      refine m_last C hM 22 rfl (n := 400) (fun _ => rfl) (4 * (s 23 0).toNat + j) (by omega) (by omega) (by decide) d_M_make_141 (fun σ hM => ?_)
      rw [mk2_1] at hM
      refine z_iinc C d_M_make_142 rfl (by decide) ?_
      refine z_goto C 65 d_M_make_145 (by decide) ?_
      exact ih (j + 1) (by omega) σ hM
  refine z_aload_n C d_M_make_0 rfl ?_
  refine m_get C hM in_M 23 (by decide) tw_fl_M_129 rfl rfl d_M_make_1 ?_
  refine z_bipush C d_M_make_4 (by decide) ?_
  refine z_icmp_ne C 13 (by omega) (by omega) d_M_make_6 (by decide) (fun h6 => ?_) (fun h6 => ?_)
  · refine z_aload_n C d_M_make_13 rfl ?_
    refine m_get C hM in_M 23 (by decide) tw_fl_M_129 rfl rfl d_M_make_14 ?_
    refine z_istore_n C d_M_make_17 (by decide) ?_
    refine z_aload_n C d_M_make_18 rfl ?_
    refine m_get C hM in_M 16 (by decide) tw_fl_M_54 rfl rfl d_M_make_19 ?_
    refine z_iload_n C d_M_make_22 rfl ?_
    refine z_iload_n C d_M_make_23 rfl ?_
    refine z_bipush C d_M_make_24 (by decide) ?_
    refine z_irem C (by omega) (by omega) d_M_make_26 ?_
    refine z_top (w := iv ((p % 12 : Nat) : Int)) (by rw [show (p : Int) % 12 = ((p % 12 : Nat) : Int) from by omega]) ?_
    refine m_iast C hM 16 rfl (n := 100) (fun _ => rfl) ((s 23 0).toNat) (by omega) (by omega) (by decide) d_M_make_27 (fun σ hM => ?_)
    refine z_aload_n C d_M_make_28 rfl ?_
    refine m_get C hM in_M 17 (by decide) tw_fl_M_57 rfl rfl d_M_make_29 ?_
    refine z_iload_n C d_M_make_32 rfl ?_
    refine z_iload_n C d_M_make_33 rfl ?_
    refine z_bipush C d_M_make_34 (by decide) ?_
    refine z_idiv C (by omega) (by omega) d_M_make_36 ?_
    refine z_top (w := iv ((p / 12 : Nat) : Int)) (by rw [show (p : Int) / 12 = ((p / 12 : Nat) : Int) from by omega]) ?_
    refine m_iast C hM 17 rfl (n := 100) (fun _ => rfl) ((s 23 0).toNat) (by omega) (by omega) (by decide) d_M_make_37 (fun σ hM => ?_)
    refine z_aload_n C d_M_make_38 rfl ?_
    refine m_get C hM in_M 18 (by decide) tw_fl_M_60 rfl rfl d_M_make_39 ?_
    refine z_iload_n C d_M_make_42 rfl ?_
    refine z_aload_n C d_M_make_43 rfl ?_
    refine m_get C hM in_M 7 (by decide) tw_fl_M_30 rfl rfl d_M_make_44 ?_
    refine z_iload_n C d_M_make_47 rfl ?_
    refine m_iald C hM 7 rfl (n := 36) (fun _ => rfl) (p) (by omega) (by omega) (by decide) d_M_make_48 ?_
    refine z_top (w := iv (s 7 p)) rfl ?_
    refine m_iast C hM 18 rfl (n := 100) (fun _ => rfl) ((s 23 0).toNat) (by omega) (by omega) (by decide) d_M_make_49 (fun σ hM => ?_)
    refine z_aload_n C d_M_make_50 rfl ?_
    refine m_get C hM in_M 19 (by decide) tw_fl_M_63 rfl rfl d_M_make_51 ?_
    refine z_iload_n C d_M_make_54 rfl ?_
    refine z_aload_n C d_M_make_55 rfl ?_
    refine m_get C hM in_M 8 (by decide) tw_fl_M_33 rfl rfl d_M_make_56 ?_
    refine z_iload_n C d_M_make_59 rfl ?_
    refine m_iald C hM 8 rfl (n := 36) (fun _ => rfl) (p) (by omega) (by omega) (by decide) d_M_make_60 ?_
    refine z_top (w := iv (s 8 p)) rfl ?_
    refine m_iast C hM 19 rfl (n := 100) (fun _ => rfl) ((s 23 0).toNat) (by omega) (by omega) (by decide) d_M_make_61 (fun σ hM => ?_)
    refine z_iconst C d_M_make_62 ?_
    refine z_istore C d_M_make_63 (by decide) ?_
    exact loop h6 (s 8 p).toNat 0 (by omega) σ (by rw [mk2_0]; exact hM)
  · refine z_ldc2 C (-5) tw_kl_M_132 d_M_make_9 ?_
    exact z_lret C d_M_make_12 (by decide) (by decide) (by rw [show mmake s p w = (-5, s) from if_pos h6]; exact ⟨rfl, hM⟩)
end MC4
end
section
section MC5
variable {l : Launch} {D : va_G} {A : Nat → Prop} {cI cZ cJ cB : ClassId} {F : State → Prop} {m0 : Nat} {ad : Nat → Nat} {σ : zh} {s : St}
set_option maxRecDepth 100000 in
set_option maxHeartbeats 4000000 in
theorem cM_work  (hF : zFok F A) (hI : Inv s) (hM : RM cI cZ cJ m0 ad s σ) (hm : MI s) (ht : 0 < s 27 0) : zM l D vwCl A (ztys cI cZ cJ cB) F y_M_work ws_M_work (zroom 2 0 0) [.ref m0] σ (fun r σ' => r = some (jv (mwork s).1) ∧ mR cI cZ cJ m0 ad σ (mwork s).2 σ') := by
  refine zMet2 hF (by decide) (Nat.le_of_ble_eq_true rfl) (fun K hKl C => ?_)
  have hM := mR.rf hM
  have htop := hm.top
  obtain ⟨t, et⟩ := Int.eq_ofNat_of_zero_le (show 0 ≤ s 27 0 - 1 by omega)
  have t27 : s 27 0 = (t : Int) + 1 := by omega
  obtain ⟨f1, f2, f3⟩ := hm.fr (j := t) (by omega)
  obtain ⟨p, ep⟩ := Int.eq_ofNat_of_zero_le f1
  rw [ep, Int.toNat_natCast] at f3
  have hp36 : p < 36 := by omega
  have ew : mwork s = mworkp s t p := mwork_at t27 ep
  have hkd := hI.kd p
  have hgt := hm.got (j := t) (by omega)
  have loop : ∀ (n : Nat) (u : St), Inv u → MI u → u 27 0 = (t : Int) + 1 → u 24 t = (p : Int) → u 5 p = 3 → ¬ (u 7 p = 2 ∧ u 15 0 = 0) → n = (u 8 p - u 25 t).toNat → ∀ (aa bb cc : Option Value) (σ1 : zh), mR cI cZ cJ m0 ad σ u σ1 → zJ K D vwCl A 6 (zQ K D vwCl A (fun r σ' => r = some (jv (mneeds p t n u).1) ∧ mR cI cZ cJ m0 ad σ (mneeds p t n u).2 σ') 0 0) 0 0 σ1 59 [some (.ref m0), some (iv (t : Int)), some (iv (p : Int)), aa, bb, cc] [] := by
    intro n
    induction n with
    | zero =>
      intro u hIu hmu h27 h24 h5 hno hn aa bb cc σ1 hM
      have hnn := hIu.nn p
      have hgu := hmu.got (j := t) (by omega)
      refine z_aload_n C d_M_work_59 rfl ?_
      refine m_get C hM in_M 25 (by decide) tw_fl_M_79 rfl rfl d_M_work_60 ?_
      refine z_iload_n C d_M_work_63 rfl ?_
      refine m_iald C hM 25 rfl (n := 36) (fun _ => rfl) (t) (by omega) (by omega) (by decide) d_M_work_64 ?_
      refine z_aload_n C d_M_work_65 rfl ?_
      refine m_get C hM in_M 8 (by decide) tw_fl_M_33 rfl rfl d_M_work_66 ?_
      refine z_iload_n C d_M_work_69 rfl ?_
      refine m_iald C hM 8 rfl (n := 36) (fun _ => rfl) (p) (by omega) (by omega) (by decide) d_M_work_70 ?_
      refine z_icmp_ge C 173 (by omega) (by omega) d_M_work_71 (by decide) (fun h71 => ?_) (fun h71 => absurd h71 (by omega))
      refine z_aload_n C d_M_work_173 rfl ?_
      refine z_iload_n C d_M_work_174 rfl ?_
      refine z_iload_n C d_M_work_175 rfl ?_
      refine z_callV C hKl (cM_make p t hF hIu hM.1 hp36 (by omega)) (zgood (fun _ h => h) tw_co_M_make) rfl (hM.1.1) rfl tw_ml_M_140 tw_im_M_make tw_se_M_make tw_in_M pd_M_make (by decide) rfl (Nat.le_of_ble_eq_true rfl) (by decide) d_M_work_176 (fun r σ' hp => ?_)
      obtain ⟨rfl, hp⟩ := hp
      exact z_lret C d_M_work_179 (by decide) (by decide) (⟨rfl, hM.tr hp⟩)
    | succ n ih =>
      intro u hIu hmu h27 h24 h5 hno hn aa bb cc σ1 hM
      have hnn := hIu.nn p
      have hgu := hmu.got (j := t) (by omega)
      obtain ⟨g, hg⟩ := Int.eq_ofNat_of_zero_le hgu.1
      have hnk := hIu.nk (4 * p + g)
      have hnz := hIu.nz (4 * p + g)
      have es : mneeds p t (n + 1) u = if (mone u p t).1 < 0 then mone u p t else mneeds p t n (mput (mone u p t).2 t (mone u p t).1) := rfl
      obtain ⟨⟨o1, o2, o3, o4⟩, o5⟩ := mone_ok (me := t) hIu hmu hp36 (by omega) (by omega)
      have tail : ∀ σ2 : zh, mR cI cZ cJ m0 ad σ (mone u p t).2 σ2 → ∀ bb cc : Option Value, zJ K D vwCl A 6 (zQ K D vwCl A (fun r σ' => r = some (jv (mneeds p t (n + 1) u).1) ∧ mR cI cZ cJ m0 ad σ (mneeds p t (n + 1) u).2 σ') 0 0) 0 0 σ2 131 [some (.ref m0), some (iv (t : Int)), some (iv (p : Int)), some (iv ((4 * p + g : Nat) : Int)), bb, cc] [jv (mone u p t).1] := by
        intro σ2 hM bb cc
        refine z_lstore C d_M_work_131 (by decide) ?_
        refine z_lload C d_M_work_133 rfl ?_
        refine z_lconst C 0 d_M_work_135 rfl ?_
        refine z_lcmp C (by omega) (by omega) d_M_work_136 (fun v136 hv136 => ?_)
        refine z_if_ge C 143 (by omega) d_M_work_137 (by decide) (fun h137 => ?_) (fun h137 => ?_)
        · rw [o5 (by omega)] at hM
          refine z_aload_n C d_M_work_143 rfl ?_
          refine m_get C hM in_M 26 (by decide) tw_fl_M_82 rfl rfl d_M_work_144 ?_
          refine z_iconst C d_M_work_147 ?_
          refine z_iload_n C d_M_work_148 rfl ?_
          refine z_imul C d_M_work_149 ?_
          refine z_aload_n C d_M_work_150 rfl ?_
          refine m_get C hM in_M 25 (by decide) tw_fl_M_79 rfl rfl d_M_work_151 ?_
          refine z_iload_n C d_M_work_154 rfl ?_
          refine m_iald C hM 25 rfl (n := 36) (fun _ => rfl) (t) (by omega) (by omega) (by decide) d_M_work_155 ?_
          refine z_top (w := iv (g : Int)) (by rw [hg]) ?_
          refine z_iadd C d_M_work_156 ?_
          refine z_lload C d_M_work_157 rfl ?_
          refine m_last C hM 26 rfl (n := 144) (fun _ => rfl) (4 * t + g) (by omega) (by omega) (by decide) d_M_work_159 (fun σ hM => ?_)
          refine z_aload_n C d_M_work_160 rfl ?_
          refine m_get C hM in_M 25 (by decide) tw_fl_M_79 rfl rfl d_M_work_161 ?_
          refine z_iload_n C d_M_work_164 rfl ?_
          refine z_dup2 C rfl rfl d_M_work_165 ?_
          refine m_iald C hM 25 rfl (n := 36) (fun _ => rfl) (t) (by omega) (by omega) (by decide) d_M_work_166 ?_
          refine z_top (w := iv (g : Int)) (by show iv (u 25 t) = _; rw [hg]) ?_
          refine z_iconst C d_M_work_167 ?_
          refine z_iadd C d_M_work_168 ?_
          refine m_iast C hM 25 rfl (n := 36) (fun _ => rfl) (t) (by omega) (by omega) (by decide) d_M_work_169 (fun σ hM => ?_)
          have emp : mput u t (mone u p t).1 = sup (sup u 26 (4 * t + g) (mone u p t).1) 25 t ((g : Int) + 1) := by
            unfold mput
            rw [hg, Int.toNat_natCast]
          rw [← emp] at hM
          refine z_goto C 59 d_M_work_170 (by decide) ?_
          rw [es, if_neg (by omega), o5 (by omega)]
          exact ih (mput u t (mone u p t).1) (Inv_sem (sem_mput (fun _ _ => rfl) t _) hIu) (hmu.put (by omega) (by omega) (by omega)) (by rw [mput_27]; exact h27) h24 h5 hno (by
            rw [mput_25, iup_s]
            show n = (u 8 p - (u 25 t + 1)).toNat
            omega) _ _ _ σ hM
        · refine z_lload C d_M_work_140 rfl ?_
          exact z_lret C d_M_work_142 (by decide) (by decide) (by rw [es, if_pos (by omega)]; exact ⟨rfl, hM⟩)
      refine z_aload_n C d_M_work_59 rfl ?_
      refine m_get C hM in_M 25 (by decide) tw_fl_M_79 rfl rfl d_M_work_60 ?_
      refine z_iload_n C d_M_work_63 rfl ?_
      refine m_iald C hM 25 rfl (n := 36) (fun _ => rfl) (t) (by omega) (by omega) (by decide) d_M_work_64 ?_
      refine z_aload_n C d_M_work_65 rfl ?_
      refine m_get C hM in_M 8 (by decide) tw_fl_M_33 rfl rfl d_M_work_66 ?_
      refine z_iload_n C d_M_work_69 rfl ?_
      refine m_iald C hM 8 rfl (n := 36) (fun _ => rfl) (p) (by omega) (by omega) (by decide) d_M_work_70 ?_
      refine z_icmp_ge C 173 (by omega) (by omega) d_M_work_71 (by decide) (fun h71 => absurd h71 (by omega)) (fun h71 => ?_)
      refine z_iconst C d_M_work_74 ?_
      refine z_iload_n C d_M_work_75 rfl ?_
      refine z_imul C d_M_work_76 ?_
      refine z_aload_n C d_M_work_77 rfl ?_
      refine m_get C hM in_M 25 (by decide) tw_fl_M_79 rfl rfl d_M_work_78 ?_
      refine z_iload_n C d_M_work_81 rfl ?_
      refine m_iald C hM 25 rfl (n := 36) (fun _ => rfl) (t) (by omega) (by omega) (by decide) d_M_work_82 ?_
      refine z_top (w := iv (g : Int)) (by rw [hg]) ?_
      refine z_iadd C d_M_work_83 ?_
      refine z_top (w := iv ((4 * p + g : Nat) : Int)) (by rw [show 4 * (p : Int) + (g : Int) = (((4 * p + g : Nat)) : Int) from by omega]) ?_
      refine z_istore_n C d_M_work_84 (by decide) ?_
      refine z_aload_n C d_M_work_85 rfl ?_
      refine m_get C hM in_M 10 (by decide) tw_fl_M_39 rfl rfl d_M_work_86 ?_
      refine z_iload_n C d_M_work_89 rfl ?_
      refine m_zald C hM 10 rfl (n := 144) (fun _ => rfl) (4 * p + g) (by omega) (by omega) (by decide) d_M_work_90 ?_
      refine z_if_eq C 117 (by omega) d_M_work_91 (by decide) (fun h91 => ?_) (fun h91 => ?_)
      · refine z_aload_n C d_M_work_117 rfl ?_
        refine z_iload_n C d_M_work_118 rfl ?_
        refine z_bipush C d_M_work_119 (by decide) ?_
        refine z_idiv C (by omega) (by omega) d_M_work_121 ?_
        refine z_top (w := iv ((p / 12 : Nat) : Int)) (by rw [show (p : Int) / 12 = ((p / 12 : Nat) : Int) from by omega]) ?_
        refine z_aload_n C d_M_work_122 rfl ?_
        refine m_get C hM in_M 9 (by decide) tw_fl_M_36 rfl rfl d_M_work_123 ?_
        refine z_iload_n C d_M_work_126 rfl ?_
        refine m_iald C hM 9 rfl (n := 144) (fun _ => rfl) (4 * p + g) (by omega) (by omega) (by decide) d_M_work_127 ?_
        refine z_top (w := iv (((u 9 (4 * p + g)).toNat : Nat) : Int)) (by rw [show u 9 (4 * p + g) = (((u 9 (4 * p + g)).toNat : Nat) : Int) from by omega, Int.toNat_natCast]) ?_
        refine z_callV C hKl (cM_begin (p / 12) (u 9 (4 * p + g)).toNat hF hIu hM.1 (by omega) (by omega) hmu) (zgood (fun _ h => h) tw_co_M_begin) rfl (hM.1.1) rfl tw_ml_M_134 tw_im_M_begin tw_se_M_begin tw_in_M pd_M_begin (by decide) rfl (Nat.le_of_ble_eq_true rfl) (by decide) d_M_work_128 (fun r σ' hp => ?_)
        obtain ⟨rfl, hp⟩ := hp
        have hM := hM.tr hp
        have em : mone u p t = mbegin u (p / 12) (u 9 (4 * p + g)).toNat := by
          unfold mone
          rw [hg, Int.toNat_natCast, if_neg (by omega)]
        have j := tail σ' (by rw [em]; exact hM) bb cc
        rw [em] at j
        exact j
      · refine z_ldc2 C 20000000000 tw_kl_M_138 d_M_work_94 ?_
        refine z_bipush C d_M_work_97 (by decide) ?_
        refine z_iload_n C d_M_work_99 rfl ?_
        refine z_bipush C d_M_work_100 (by decide) ?_
        refine z_idiv C (by omega) (by omega) d_M_work_102 ?_
        refine z_top (w := iv ((p / 12 : Nat) : Int)) (by rw [show (p : Int) / 12 = ((p / 12 : Nat) : Int) from by omega]) ?_
        refine z_imul C d_M_work_103 ?_
        refine z_i2l C (by omega) d_M_work_104 ?_
        refine z_ladd C d_M_work_105 ?_
        refine z_aload_n C d_M_work_106 rfl ?_
        refine m_get C hM in_M 9 (by decide) tw_fl_M_36 rfl rfl d_M_work_107 ?_
        refine z_iload_n C d_M_work_110 rfl ?_
        refine m_iald C hM 9 rfl (n := 144) (fun _ => rfl) (4 * p + g) (by omega) (by omega) (by decide) d_M_work_111 ?_
        refine z_i2l C (by omega) d_M_work_112 ?_
        refine z_ladd C d_M_work_113 ?_
        refine z_goto C 131 d_M_work_114 (by decide) ?_
        have em : mone u p t = (20000000000 + 16 * ((p / 12 : Nat) : Int) + u 9 (4 * p + g), u) := by
          unfold mone
          rw [hg, Int.toNat_natCast, if_pos (by omega)]
        have j := tail σ1 (by rw [em]; exact hM) bb cc
        rw [em] at j
        exact j
  refine z_aload_n C d_M_work_0 rfl ?_
  refine m_get C hM in_M 27 (by decide) tw_fl_M_108 rfl rfl d_M_work_1 ?_
  refine z_iconst C d_M_work_4 ?_
  refine z_isub C d_M_work_5 ?_
  refine z_top (w := iv (t : Int)) (by rw [et]) ?_
  refine z_istore_n C d_M_work_6 (by decide) ?_
  refine z_aload_n C d_M_work_7 rfl ?_
  refine m_get C hM in_M 24 (by decide) tw_fl_M_76 rfl rfl d_M_work_8 ?_
  refine z_iload_n C d_M_work_11 rfl ?_
  refine m_iald C hM 24 rfl (n := 36) (fun _ => rfl) (t) (by omega) (by omega) (by decide) d_M_work_12 ?_
  refine z_top (w := iv (p : Int)) (by rw [ep]) ?_
  refine z_istore_n C d_M_work_13 (by decide) ?_
  refine z_aload_n C d_M_work_14 rfl ?_
  refine m_get C hM in_M 5 (by decide) tw_fl_M_24 rfl rfl d_M_work_15 ?_
  refine z_iload_n C d_M_work_18 rfl ?_
  refine m_iald C hM 5 rfl (n := 36) (fun _ => rfl) (p) (by omega) (by omega) (by decide) d_M_work_19 ?_
  refine z_iconst C d_M_work_20 ?_
  refine z_icmp_ne C 59 (by omega) (by omega) d_M_work_21 (by decide) (fun h21 => ?_) (fun h21 => ?_)
  · rw [ew, show mworkp s t p = mneeds p t (s 8 p - s 25 t).toNat s from by unfold mworkp; rw [if_neg (by omega)]]
    rcases f3 with f3 | f3
    · exact absurd f3 (by omega)
    · exact loop _ s hI hm t27 ep f3.1 f3.2 rfl none none none σ hM
  · refine z_aload_n C d_M_work_24 rfl ?_
    refine m_get C hM in_M 25 (by decide) tw_fl_M_79 rfl rfl d_M_work_25 ?_
    refine z_iload_n C d_M_work_28 rfl ?_
    refine m_iald C hM 25 rfl (n := 36) (fun _ => rfl) (t) (by omega) (by omega) (by decide) d_M_work_29 ?_
    refine z_if_ne C 50 (by omega) d_M_work_30 (by decide) (fun h30 => ?_) (fun h30 => ?_)
    · refine z_aload_n C d_M_work_50 rfl ?_
      refine m_get C hM in_M 26 (by decide) tw_fl_M_82 rfl rfl d_M_work_51 ?_
      refine z_iconst C d_M_work_54 ?_
      refine z_iload_n C d_M_work_55 rfl ?_
      refine z_imul C d_M_work_56 ?_
      refine m_lald C hM 26 rfl (n := 144) (fun _ => rfl) (4 * t) (by omega) (by omega) (by decide) d_M_work_57 ?_
      exact z_lret C d_M_work_58 (by decide) (by decide) (by rw [ew, show mworkp s t p = (s 26 (4 * t), s) from by unfold mworkp; rw [if_pos (by omega), if_neg (by omega)]]; exact ⟨rfl, hM⟩)
    · refine z_aload_n C d_M_work_33 rfl ?_
      refine z_iload_n C d_M_work_34 rfl ?_
      refine z_bipush C d_M_work_35 (by decide) ?_
      refine z_idiv C (by omega) (by omega) d_M_work_37 ?_
      refine z_top (w := iv ((p / 12 : Nat) : Int)) (by rw [show (p : Int) / 12 = ((p / 12 : Nat) : Int) from by omega]) ?_
      refine z_aload_n C d_M_work_38 rfl ?_
      refine m_get C hM in_M 6 (by decide) tw_fl_M_27 rfl rfl d_M_work_39 ?_
      refine z_iload_n C d_M_work_42 rfl ?_
      have hlk := hI.lk (p := p) (by omega)
      refine m_iald C hM 6 rfl (n := 36) (fun _ => rfl) (p) (by omega) (by omega) (by decide) d_M_work_43 ?_
      refine z_top (w := iv (((s 6 p).toNat : Nat) : Int)) (by rw [show s 6 p = (((s 6 p).toNat : Nat) : Int) from by omega, Int.toNat_natCast]) ?_
      refine z_callV C hKl (cM_begin (p / 12) (s 6 p).toNat hF hI hM.1 (by omega) (by omega) hm) (zgood (fun _ h => h) tw_co_M_begin) rfl (hM.1.1) rfl tw_ml_M_134 tw_im_M_begin tw_se_M_begin tw_in_M pd_M_begin (by decide) rfl (Nat.le_of_ble_eq_true rfl) (by decide) d_M_work_44 (fun r σ' hp => ?_)
      obtain ⟨rfl, hp⟩ := hp
      refine z_goto C 58 d_M_work_47 (by decide) ?_
      exact z_lret C d_M_work_58 (by decide) (by decide) (by rw [ew, show mworkp s t p = mbegin s (p / 12) (s 6 p).toNat from by unfold mworkp; rw [if_pos (by omega), if_pos (by omega)]]; exact ⟨rfl, hM.tr hp⟩)
set_option maxRecDepth 100000 in
set_option maxHeartbeats 4000000 in
theorem cM_gets (i k : Nat) (hF : zFok F A) (hI : Inv s) (hM : RM cI cZ cJ m0 ad s σ) (hi : i < 3) (hk : k < 12) (hv : VI s) : zM l D vwCl A (ztys cI cZ cJ cB) F y_M_gets ws_M_gets (zroom 3 0 0) [.ref m0, iv (i : Int), iv (k : Int)] σ (fun r σ' => r = some (jv (mgets s i k).1) ∧ mR cI cZ cJ m0 ad σ (mgets s i k).2 σ') := by
  refine zMet2 hF (by decide) (Nat.le_of_ble_eq_true rfl) (fun K hKl C => ?_)
  have hM := mR.rf hM
  have loop : ∀ (n q : Nat) (v : Int) (u : St), q + n = 100000 → Inv u → MI u → -100 ≤ v → v ≤ 1000000000000 → ∀ σ1 : zh, mR cI cZ cJ m0 ad σ u σ1 → ∀ aa : Option Value, zJ K D vwCl A 7 (zQ K D vwCl A (fun r σ' => r = some (jv (mloop n v u).1) ∧ mR cI cZ cJ m0 ad σ (mloop n v u).2 σ') 0 0) 0 0 σ1 15 [some (.ref m0), some (iv (i : Int)), some (iv (k : Int)), some (jv v), none, some (iv (q : Int)), aa] [] := by
    intro n
    induction n with
    | zero =>
      intro q v u hq hIu hmu v1 v2 σ1 hM aa
      refine z_iload C d_M_gets_15 rfl ?_
      refine z_ldc C 100000 tw_ki_M_143 d_M_gets_17 ?_
      refine z_icmp_ge C 141 (by omega) (by omega) d_M_gets_19 (by decide) (fun h19 => ?_) (fun h19 => absurd h19 (by omega))
      refine z_lload_n C d_M_gets_141 rfl ?_
      exact z_lret C d_M_gets_142 (by decide) (by decide) (⟨rfl, hM⟩)
    | succ n ih =>
      intro q v u hq hIu hmu v1 v2 σ1 hM aa
      have htop := hmu.top
      have eL : mloop (n + 1) v u = if u 27 0 ≤ 0 then (v, u) else if v < 0 ∧ v ≠ -100 then (v, u) else mcont (mloop n) (mwork u) (u 27 0) := rfl
      have k135 : ∀ (v2 : Int) (u2 : St), mloop (n + 1) v u = mloop n v2 u2 → Inv u2 → MI u2 → -100 ≤ v2 → v2 ≤ 1000000000000 → ∀ σ2 : zh, mR cI cZ cJ m0 ad σ u2 σ2 → ∀ aa : Option Value, zJ K D vwCl A 7 (zQ K D vwCl A (fun r σ' => r = some (jv (mloop (n + 1) v u).1) ∧ mR cI cZ cJ m0 ad σ (mloop (n + 1) v u).2 σ') 0 0) 0 0 σ2 135 [some (.ref m0), some (iv (i : Int)), some (iv (k : Int)), some (jv v2), none, some (iv (q : Int)), aa] [] := by
        intro v2 u2 e hI2 hm2 w1 w2 σ2 hM aa
        rw [e]
        refine z_iinc C d_M_gets_135 rfl (by decide) ?_
        refine z_goto C 15 d_M_gets_138 (by decide) ?_
        have j := ih (q + 1) v2 u2 (by omega) hI2 hm2 w1 w2 σ2 hM aa
        rw [show ((q + 1 : Nat) : Int) = (q : Int) + 1 from by omega] at j
        exact j
      have k45 : 0 < u 27 0 → ¬ (v < 0 ∧ v ≠ -100) → zJ K D vwCl A 7 (zQ K D vwCl A (fun r σ' => r = some (jv (mloop (n + 1) v u).1) ∧ mR cI cZ cJ m0 ad σ (mloop (n + 1) v u).2 σ') 0 0) 0 0 σ1 45 [some (.ref m0), some (iv (i : Int)), some (iv (k : Int)), some (jv v), none, some (iv (q : Int)), aa] [] := by
        intro ht hv
        have htop := hmu.top
        obtain ⟨⟨w1, w2, w3, w4⟩, w5⟩ := mwork_ok hIu hmu ht
        have w27 := fun h => congrFun (w5 h) 0
        have eL : mloop (n + 1) v u = mcont (mloop n) (mwork u) (u 27 0) := mloop_go ht hv
        have ep := mpop_27 (mwork u).2
        refine z_aload_n C d_M_gets_45 rfl ?_
        refine m_get C hM in_M 27 (by decide) tw_fl_M_108 rfl rfl d_M_gets_46 ?_
        refine z_istore C d_M_gets_49 (by decide) ?_
        refine z_aload_n C d_M_gets_51 rfl ?_
        refine z_callV C hKl (cM_work hF hIu hM.1 hmu ht) (zgood (fun _ h => h) tw_co_M_work) rfl (hM.1.1) rfl tw_ml_M_144 tw_im_M_work tw_se_M_work tw_in_M pd_M_work (by decide) rfl (Nat.le_of_ble_eq_true rfl) (by decide) d_M_gets_52 (fun r σ' hp => ?_)
        obtain ⟨rfl, hp⟩ := hp
        have hM := hM.tr hp
        generalize σ' = σ2 at hM ⊢
        refine z_lstore_n C d_M_gets_55 (by decide) ?_
        refine z_lload_n C d_M_gets_56 rfl ?_
        refine z_lconst C 0 d_M_gets_57 rfl ?_
        refine z_lcmp C (by omega) (by omega) d_M_gets_58 (fun v58 hv58 => ?_)
        refine z_if_lt C 135 (by omega) d_M_gets_59 (by decide) (fun h59 => ?_) (fun h59 => ?_)
        · exact k135 _ _ (by rw [eL, mcont_neg (by omega)]) w1 w2 w3 w4 _ hM _
        · have hw0 : 0 ≤ (mwork u).1 := by omega
          have w27 := w27 hw0
          refine z_aload_n C d_M_gets_62 rfl ?_
          refine z_lload_n C d_M_gets_63 rfl ?_
          refine z_iload C d_M_gets_64 rfl ?_
          refine z_callV C hKl (cM_took (mwork u).1 (u 27 0) hF w1 hM.1 w2 (by omega) (by omega)) (zgood (fun _ h => h) tw_co_M_took) rfl (hM.1.1) rfl tw_ml_M_148 tw_im_M_took tw_se_M_took tw_in_M pd_M_took (by decide) rfl (Nat.le_of_ble_eq_true rfl) (by decide) d_M_gets_66 (fun r σ' hp => ?_)
          obtain ⟨b, rfl, hb⟩ := hp
          refine z_if_eq C 75 (by rcases hb with q | q <;> (have := q.1; omega)) d_M_gets_69 (by decide) (fun h69 => ?_) (fun h69 => ?_)
          · rcases hb with ⟨hb1, -, -⟩ | ⟨hb1, hb2, hb3⟩
            · exact absurd h69 (by omega)
            have hM := hM.tr hb3
            generalize σ' = σ3 at hM ⊢
            refine z_aload_n C d_M_gets_75 rfl ?_
            refine z_dup C rfl d_M_gets_76 ?_
            refine m_get C hM in_M 27 (by decide) tw_fl_M_108 rfl rfl d_M_gets_77 ?_
            refine z_iconst C d_M_gets_80 ?_
            refine z_isub C d_M_gets_81 ?_
            refine m_put C hM in_M 27 (by decide) rfl tw_fl_M_108 rfl rfl (tk_M 27 (by decide)) rfl rfl rfl d_M_gets_82 (fun σ hM => ?_)
            have hM : mR cI cZ cJ m0 ad _ (mpop (mwork u).2) σ := hM
            refine z_aload_n C d_M_gets_85 rfl ?_
            refine m_get C hM in_M 27 (by decide) tw_fl_M_108 rfl rfl d_M_gets_86 ?_
            refine z_top (w := iv (mpop (mwork u).2 27 0)) rfl ?_
            refine z_if_ne C 94 (by omega) d_M_gets_89 (by decide) (fun h89 => ?_) (fun h89 => ?_)
            · have hPm := w2.pop (by omega)
              have hg := hPm.got (j := (mpop (mwork u).2 27 0 - 1).toNat) (by omega)
              have hg3 := w2.got3 (j := (mpop (mwork u).2 27 0 - 1).toNat) (by omega)
              have hg3 : mpop (mwork u).2 25 (mpop (mwork u).2 27 0 - 1).toNat ≤ 3 := hg3
              refine z_aload_n C d_M_gets_94 rfl ?_
              refine m_get C hM in_M 26 (by decide) tw_fl_M_82 rfl rfl d_M_gets_95 ?_
              refine z_iconst C d_M_gets_98 ?_
              refine z_aload_n C d_M_gets_99 rfl ?_
              refine m_get C hM in_M 27 (by decide) tw_fl_M_108 rfl rfl d_M_gets_100 ?_
              refine z_top (w := iv (mpop (mwork u).2 27 0)) rfl ?_
              refine z_iconst C d_M_gets_103 ?_
              refine z_isub C d_M_gets_104 ?_
              refine z_imul C d_M_gets_105 ?_
              refine z_aload_n C d_M_gets_106 rfl ?_
              refine m_get C hM in_M 25 (by decide) tw_fl_M_79 rfl rfl d_M_gets_107 ?_
              refine z_aload_n C d_M_gets_110 rfl ?_
              refine m_get C hM in_M 27 (by decide) tw_fl_M_108 rfl rfl d_M_gets_111 ?_
              refine z_top (w := iv (mpop (mwork u).2 27 0)) rfl ?_
              refine z_iconst C d_M_gets_114 ?_
              refine z_isub C d_M_gets_115 ?_
              refine m_iald C hM 25 rfl (n := 36) (fun _ => rfl) ((mpop (mwork u).2 27 0 - 1).toNat) (by omega) (by omega) (by decide) d_M_gets_116 ?_
              refine z_iadd C d_M_gets_117 ?_
              refine z_lload_n C d_M_gets_118 rfl ?_
              refine m_last C hM 26 rfl (n := 144) (fun _ => rfl) (4 * (mpop (mwork u).2 27 0 - 1).toNat + (mpop (mwork u).2 25 (mpop (mwork u).2 27 0 - 1).toNat).toNat) (by omega) (by omega) (by decide) d_M_gets_119 (fun σ hM => ?_)
              refine z_aload_n C d_M_gets_120 rfl ?_
              refine m_get C hM in_M 25 (by decide) tw_fl_M_79 rfl rfl d_M_gets_121 ?_
              refine z_aload_n C d_M_gets_124 rfl ?_
              refine m_get C hM in_M 27 (by decide) tw_fl_M_108 rfl rfl d_M_gets_125 ?_
              refine z_top (w := iv (mpop (mwork u).2 27 0)) rfl ?_
              refine z_iconst C d_M_gets_128 ?_
              refine z_isub C d_M_gets_129 ?_
              refine z_dup2 C rfl rfl d_M_gets_130 ?_
              refine m_iald C hM 25 rfl (n := 36) (fun _ => rfl) ((mpop (mwork u).2 27 0 - 1).toNat) (by omega) (by omega) (by decide) d_M_gets_131 ?_
              refine z_top (w := iv (mpop (mwork u).2 25 (mpop (mwork u).2 27 0 - 1).toNat)) rfl ?_
              refine z_iconst C d_M_gets_132 ?_
              refine z_iadd C d_M_gets_133 ?_
              refine m_iast C hM 25 rfl (n := 36) (fun _ => rfl) ((mpop (mwork u).2 27 0 - 1).toNat) (by omega) (by omega) (by decide) d_M_gets_134 (fun σ hM => ?_)
              have htp := w2.top
              exact k135 _ _ (by rw [eL]; unfold mcont; rw [if_neg (by omega), if_neg hb2, if_neg (by omega)]) (Inv_sem (b := (mwork u).2) (fun f hf => by unfold mdel; rw [stat_mput _ _ f hf]; unfold mpop; rw [sup_n (by omega)]) w1) (w2.del (by omega) (by omega)) w3 w4 _ hM _
            · refine z_lload_n C d_M_gets_92 rfl ?_
              exact z_lret C d_M_gets_93 (by decide) (by decide) (by rw [eL]; unfold mcont; rw [if_neg (by omega), if_neg hb2, if_pos (by omega)]; exact ⟨rfl, hM⟩)
          · rcases hb with ⟨hb1, hb2, hb3⟩ | ⟨hb1, -, -⟩
            rotate_left
            · exact absurd hb1 h69
            have hM := hM.tr hb3
            refine z_goto C 135 d_M_gets_72 (by decide) ?_
            exact k135 _ _ (by rw [eL]; unfold mcont; rw [if_neg (by omega), if_pos hb2]) (Inv_sem (a := mtk (mwork u).2 (mwork u).1) (b := (mwork u).2) (fun f hf => by unfold mtk; rw [sup_n (by omega), sup_n (by omega)]) w1) (w2.tk (by omega) (by omega)) w3 w4 _ hM _
      refine z_iload C d_M_gets_15 rfl ?_
      refine z_ldc C 100000 tw_ki_M_143 d_M_gets_17 ?_
      refine z_icmp_ge C 141 (by omega) (by omega) d_M_gets_19 (by decide) (fun h19 => absurd h19 (by omega)) (fun h19 => ?_)
      refine z_aload_n C d_M_gets_22 rfl ?_
      refine m_get C hM in_M 27 (by decide) tw_fl_M_108 rfl rfl d_M_gets_23 ?_
      refine z_if_le C 141 (by omega) d_M_gets_26 (by decide) (fun h26 => ?_) (fun h26 => ?_)
      · refine z_lload_n C d_M_gets_141 rfl ?_
        exact z_lret C d_M_gets_142 (by decide) (by decide) (by rw [eL, if_pos (by omega)]; exact ⟨rfl, hM⟩)
      · refine z_lload_n C d_M_gets_29 rfl ?_
        refine z_lconst C 0 d_M_gets_30 rfl ?_
        refine z_lcmp C (by omega) (by omega) d_M_gets_31 (fun v31 hv31 => ?_)
        refine z_if_ge C 45 (by omega) d_M_gets_32 (by decide) (fun h32 => ?_) (fun h32 => ?_)
        · exact k45 (by omega) (by omega)
        · refine z_lload_n C d_M_gets_35 rfl ?_
          refine z_ldc2 C (-100) tw_kl_M_127 d_M_gets_36 ?_
          refine z_lcmp C (by omega) (by omega) d_M_gets_39 (fun v39 hv39 => ?_)
          refine z_if_eq C 45 (by omega) d_M_gets_40 (by decide) (fun h40 => ?_) (fun h40 => ?_)
          · exact k45 (by omega) (by omega)
          · refine z_lload_n C d_M_gets_43 rfl ?_
            exact z_lret C d_M_gets_44 (by decide) (by decide) (by rw [eL, if_neg (by omega), if_pos (by omega)]; exact ⟨rfl, hM⟩)
  have e0 : sup s 27 0 0 27 0 = 0 := show iup (s 27) 0 0 0 = _ from iup_s _ _ _
  have hI0 : Inv (sup s 27 0 0) := Inv_sem (b := s) (fun f hf => sup_n (by omega)) hI
  refine z_aload_n C d_M_gets_0 rfl ?_
  refine z_iconst C d_M_gets_1 ?_
  refine m_put C hM in_M 27 (by decide) rfl tw_fl_M_108 rfl rfl (tk_M 27 (by decide)) rfl rfl rfl d_M_gets_2 (fun σ hM => ?_)
  refine z_aload_n C d_M_gets_5 rfl ?_
  refine z_iload_n C d_M_gets_6 rfl ?_
  refine z_iload_n C d_M_gets_7 rfl ?_
  refine z_callV C hKl (cM_begin i k hF hI0 hM.1 hi hk hv.mi) (zgood (fun _ h => h) tw_co_M_begin) rfl (hM.1.1) rfl tw_ml_M_134 tw_im_M_begin tw_se_M_begin tw_in_M pd_M_begin (by decide) rfl (Nat.le_of_ble_eq_true rfl) (by decide) d_M_gets_8 (fun r σ' hp => ?_)
  obtain ⟨rfl, hp⟩ := hp
  have hM := hM.tr hp
  refine z_lstore_n C d_M_gets_11 (by decide) ?_
  refine z_iconst C d_M_gets_12 ?_
  refine z_istore C d_M_gets_13 (by decide) ?_
  obtain ⟨a1, a2, a3, a4, -⟩ := mbegin_ok hI0 hv.mi (fun j hj => absurd hj (by omega)) hi hk
  exact loop 100000 0 _ _ (by omega) a1 a2 a3 a4 _ hM none
end MC5
end
section
section MC6
variable {l : Launch} {D : va_G} {A : Nat → Prop} {cI cZ cJ cB : ClassId} {F : State → Prop} {m0 : Nat} {ad : Nat → Nat} {σ : zh} {s : St}
set_option maxRecDepth 100000 in
set_option maxHeartbeats 4000000 in
theorem cM_get (i k : Int) (hF : zFok F A) (hI : Inv s) (hM : RM cI cZ cJ m0 ad s σ) (ri : -2147483648 ≤ i ∧ i ≤ 2147483647) (rk : -2147483648 ≤ k ∧ k ≤ 2147483647) (hv : VI s) : zM l D vwCl A (ztys cI cZ cJ cB) F y_M_get ws_M_get (zroom 4 0 0) [.ref m0, iv i, iv k] σ (fun r σ' => ∃ s2 : St, r = some (jv (sp_get s i k).1) ∧ Inv s2 ∧ VI s2 ∧ seq s2 (sp_get s i k).2 ∧ mR cI cZ cJ m0 ad σ s2 σ') := by
  refine zMet2 hF (by decide) (Nat.le_of_ble_eq_true rfl) (fun K hKl C => ?_)
  have hM := mR.rf hM
  have hinj := hI.inj
  refine z_aload_n C d_M_get_0 rfl ?_
  refine z_iload_n C d_M_get_1 rfl ?_
  refine z_iload_n C d_M_get_2 rfl ?_
  refine z_callV C hKl (cM_noPair i k hF hI hM.1 ri rk) (zgood (fun _ h => h) tw_co_M_noPair) rfl (hM.1.1) rfl tw_ml_M_88 tw_im_M_noPair tw_se_M_noPair tw_in_M pd_M_noPair (by decide) rfl (Nat.le_of_ble_eq_true rfl) (by decide) d_M_get_3 (fun r σ hp => ?_)
  obtain ⟨rfl, b, rfl, hb⟩ := hp
  refine z_if_eq C 13 (by omega) d_M_get_6 (by decide) (fun h6 => ?_) (fun h6 => ?_)
  · obtain ⟨x, rfl⟩ := Int.eq_ofNat_of_zero_le (show 0 ≤ i by omega)
    obtain ⟨y, rfl⟩ := Int.eq_ofNat_of_zero_le (show 0 ≤ k by omega)
    have es : sp_get s x y = sget s x y := if_neg (by omega)
    obtain ⟨g1, g2, g3, g4, g5⟩ := get_ok hI hv (i := x) (k := y) (by omega) (by omega)
    rw [es]
    refine z_aload_n C d_M_get_13 rfl ?_
    refine m_get C hM in_M 23 (by decide) tw_fl_M_129 rfl rfl d_M_get_14 ?_
    refine z_istore_n C d_M_get_17 (by decide) ?_
    refine z_aload_n C d_M_get_18 rfl ?_
    refine z_callV C hKl (cM_keepCopies hF hM.1) (zgood (fun _ h => h) tw_co_M_keepCopies) rfl (hM.1.1) rfl tw_ml_M_154 tw_im_M_keepCopies tw_se_M_keepCopies tw_in_M pd_M_keepCopies (by decide) rfl (Nat.le_of_ble_eq_true rfl) (by decide) d_M_get_19 (fun r σ' hp => ?_)
    obtain ⟨rfl, hp⟩ := hp
    have hM := hM.tr hp
    refine z_aload_n C d_M_get_22 rfl ?_
    refine z_iload_n C d_M_get_23 rfl ?_
    refine z_iload_n C d_M_get_24 rfl ?_
    refine z_callV C hKl (cM_gets x y hF (kcp_inv hI) hM.1 (by omega) (by omega) hv) (zgood (fun _ h => h) tw_co_M_gets) rfl (hM.1.1) rfl tw_ml_M_157 tw_im_M_gets tw_se_M_gets tw_in_M pd_M_gets (by decide) rfl (Nat.le_of_ble_eq_true rfl) (by decide) d_M_get_25 (fun r σ' hp => ?_)
    obtain ⟨rfl, hp⟩ := hp
    have hM := hM.tr hp
    rw [g1]
    refine z_lstore C d_M_get_28 (by decide) ?_
    refine z_lload C d_M_get_30 rfl ?_
    refine z_lconst C 0 d_M_get_32 rfl ?_
    refine z_lcmp C (by omega) (by omega) d_M_get_33 (fun v33 hv33 => ?_)
    refine z_if_ge C 42 (by omega) d_M_get_34 (by decide) (fun h34 => ?_) (fun h34 => ?_)
    · refine z_lload C d_M_get_42 rfl ?_
      exact z_lret C d_M_get_44 (by decide) (by decide) (have z := g5 (by omega); ⟨_, rfl, z.1, z.2.1, z.2.2, hM⟩)
    · refine z_aload_n C d_M_get_37 rfl ?_
      refine z_iload_n C d_M_get_38 rfl ?_
      refine z_callV C hKl (cM_takeBack (s 23 0) hF hM.1) (zgood (fun _ h => h) tw_co_M_takeBack) rfl (hM.1.1) rfl tw_ml_M_160 tw_im_M_takeBack tw_se_M_takeBack tw_in_M pd_M_takeBack (by decide) rfl (Nat.le_of_ble_eq_true rfl) (by decide) d_M_get_39 (fun r σ' hp => ?_)
      obtain ⟨rfl, hp⟩ := hp
      have hM := hM.tr hp
      refine z_lload C d_M_get_42 rfl ?_
      exact z_lret C d_M_get_44 (by decide) (by decide) (have z := g4 (by omega); ⟨_, rfl, z.1, z.2.1, z.2.2, hM⟩)
  · refine z_ldc2 C (-1) tw_kl_M_152 d_M_get_9 ?_
    exact z_lret C d_M_get_12 (by decide) (by decide) (⟨s, by rw [show sp_get s i k = (-1, s) from if_pos (by omega)], hI, hv, by rw [show sp_get s i k = (-1, s) from if_pos (by omega)]; exact seq.rf s, hM⟩)
set_option maxRecDepth 100000 in
set_option maxHeartbeats 4000000 in
theorem cM_ask (i n : Int) (hF : zFok F A) (hI : Inv s) (hM : RM cI cZ cJ m0 ad s σ) (ri : -2147483648 ≤ i ∧ i ≤ 2147483647) (rn : -2147483648 ≤ n ∧ n ≤ 2147483647) (hv : VI s) : zM l D vwCl A (ztys cI cZ cJ cB) F y_M_ask ws_M_ask (zroom 5 0 0) [.ref m0, iv i, iv n] σ (fun r σ' => ∃ s2 : St, r = some (jv (sp_ask s i n).1) ∧ Inv s2 ∧ VI s2 ∧ seq s2 (sp_ask s i n).2 ∧ mR cI cZ cJ m0 ad σ s2 σ') := by
  refine zMet2 hF (by decide) (Nat.le_of_ble_eq_true rfl) (fun K hKl C => ?_)
  have hM := mR.rf hM
  have hmd := hI.md
  have hinj := hI.inj
  refine z_aload_n C d_M_ask_0 rfl ?_
  refine z_iload_n C d_M_ask_1 rfl ?_
  refine z_iload_n C d_M_ask_2 rfl ?_
  refine z_callV C hKl (cM_noNeed i n hF hI hM.1 ri rn) (zgood (fun _ h => h) tw_co_M_noNeed) rfl (hM.1.1) rfl tw_ml_M_164 tw_im_M_noNeed tw_se_M_noNeed tw_in_M pd_M_noNeed (by decide) rfl (Nat.le_of_ble_eq_true rfl) (by decide) d_M_ask_3 (fun r σ hp => ?_)
  obtain ⟨rfl, b, rfl, hb⟩ := hp
  refine z_if_eq C 13 (by omega) d_M_ask_6 (by decide) (fun h6 => ?_) (fun h6 => ?_)
  · have hin := hI.inn i.toNat
    have hiz := hI.iz (4 * i.toNat + n.toNat)
    have hij := hI.ij i.toNat
    have hij2 := hI.ij2 (i := i.toNat) (by omega)
    have hik := hI.ink (4 * i.toNat + n.toNat)
    refine z_iconst C d_M_ask_13 ?_
    refine z_iload_n C d_M_ask_14 rfl ?_
    refine z_imul C d_M_ask_15 ?_
    refine z_iload_n C d_M_ask_16 rfl ?_
    refine z_iadd C d_M_ask_17 ?_
    refine z_istore_n C d_M_ask_18 (by decide) ?_
    refine z_aload_n C d_M_ask_19 rfl ?_
    refine m_get C hM in_M 21 (by decide) tw_fl_M_69 rfl rfl d_M_ask_20 ?_
    refine z_iload_n C d_M_ask_23 rfl ?_
    refine m_zald C hM 21 rfl (n := 400) (fun _ => rfl) (4 * i.toNat + n.toNat) (by omega) (by omega) (by decide) d_M_ask_24 ?_
    refine z_if_eq C 47 (by omega) d_M_ask_25 (by decide) (fun h25 => ?_) (fun h25 => ?_)
    · refine z_aload_n C d_M_ask_47 rfl ?_
      refine m_get C hM in_M 22 (by decide) tw_fl_M_72 rfl rfl d_M_ask_48 ?_
      refine z_iload_n C d_M_ask_51 rfl ?_
      refine m_lald C hM 22 rfl (n := 400) (fun _ => rfl) (4 * i.toNat + n.toNat) (by omega) (by omega) (by decide) d_M_ask_52 ?_
      exact z_lret C d_M_ask_53 (by decide) (by decide) (⟨s, by rw [show sp_ask s i n = (s 22 (4 * i.toNat + n.toNat), s) from by unfold sp_ask; rw [if_neg (by omega), if_neg (by omega)]], hI, hv, by rw [show sp_ask s i n = (s 22 (4 * i.toNat + n.toNat), s) from by unfold sp_ask; rw [if_neg (by omega), if_neg (by omega)]]; exact seq.rf s, hM⟩)
    · refine z_aload_n C d_M_ask_28 rfl ?_
      refine z_aload_n C d_M_ask_29 rfl ?_
      refine m_get C hM in_M 17 (by decide) tw_fl_M_57 rfl rfl d_M_ask_30 ?_
      refine z_iload_n C d_M_ask_33 rfl ?_
      refine m_iald C hM 17 rfl (n := 100) (fun _ => rfl) (i.toNat) (by omega) (by omega) (by decide) d_M_ask_34 ?_
      refine z_aload_n C d_M_ask_35 rfl ?_
      refine m_get C hM in_M 20 (by decide) tw_fl_M_66 rfl rfl d_M_ask_36 ?_
      refine z_iload_n C d_M_ask_39 rfl ?_
      refine m_iald C hM 20 rfl (n := 400) (fun _ => rfl) (4 * i.toNat + n.toNat) (by omega) (by omega) (by decide) d_M_ask_40 ?_
      refine z_callV C hKl (cM_get (s 17 i.toNat) (s 20 (4 * i.toNat + n.toNat)) hF hI hM.1 (by omega) (by omega) hv) (zgood (fun _ h => h) tw_co_M_get) rfl (hM.1.1) rfl tw_ml_M_167 tw_im_M_get tw_se_M_get tw_in_M pd_M_get (by decide) rfl (Nat.le_of_ble_eq_true rfl) (by decide) d_M_ask_41 (fun r σ' hp => ?_)
      obtain ⟨s2, rfl, p1, p2, p3, p4⟩ := hp
      refine z_goto C 53 d_M_ask_44 (by decide) ?_
      exact z_lret C d_M_ask_53 (by decide) (by decide) (by
        have e1 : sp_ask s i n = sp_get s (s 17 i.toNat) (s 20 (4 * i.toNat + n.toNat)) := by
          unfold sp_ask sp_get
          rw [if_neg (by omega), if_pos (by omega), if_neg (by omega)]
        rw [e1]
        exact ⟨s2, rfl, p1, p2, p3, hM.tr p4⟩)
  · refine z_ldc2 C (-1) tw_kl_M_152 d_M_ask_9 ?_
    exact z_lret C d_M_ask_12 (by decide) (by decide) (⟨s, by rw [show sp_ask s i n = (-1, s) from if_pos (by omega)], hI, hv, by rw [show sp_ask s i n = (-1, s) from if_pos (by omega)]; exact seq.rf s, hM⟩)
set_option maxRecDepth 100000 in
set_option maxHeartbeats 4000000 in
theorem cM_broken (i : Int) (hF : zFok F A) (hI : Inv s) (hM : RM cI cZ cJ m0 ad s σ) (ri : -2147483648 ≤ i ∧ i ≤ 2147483647) (hv : VI s) : zM l D vwCl A (ztys cI cZ cJ cB) F y_M_broken ws_M_broken (zroom 4 0 0) [.ref m0, iv i] σ (fun r σ' => ∃ s2 : St, r = some (iv (sp_broken s i)) ∧ Inv s2 ∧ VI s2 ∧ seq s2 s ∧ mR cI cZ cJ m0 ad σ s2 σ') := by
  refine zMet2 hF (by decide) (Nat.le_of_ble_eq_true rfl) (fun K hKl C => ?_)
  have hM := mR.rf hM
  have hinj := hI.inj
  have loop : ∀ x : Nat, x < 3 → ∀ (n k : Nat) (u : St), k + n = 12 → Inv u → VI u → cpd u → seq u s → ∀ (aa bb : Option Value) (σ1 : zh), mR cI cZ cJ m0 ad σ u σ1 → zJ K D vwCl A 6 (zQ K D vwCl A (fun r σ' => ∃ s2 : St, r = some (iv (brk s x n k)) ∧ Inv s2 ∧ VI s2 ∧ seq s2 s ∧ mR cI cZ cJ m0 ad σ s2 σ') 0 0) 0 0 σ1 25 [some (.ref m0), some (iv (x : Int)), some (iv (s 23 0)), some (iv (k : Int)), aa, bb] [] := by
    intro x hx n
    induction n with
    | zero =>
      intro k u hk hIu hvu hcu hsu aa bb σ1 hM
      refine z_iload_n C d_M_broken_25 rfl ?_
      refine z_bipush C d_M_broken_26 (by decide) ?_
      refine z_icmp_ge C 71 (by omega) (by omega) d_M_broken_28 (by decide) (fun h28 => ?_) (fun h28 => absurd h28 (by omega))
      refine z_bipush C d_M_broken_71 (by decide) ?_
      exact z_iret C d_M_broken_73 (by decide) (by decide) (⟨u, rfl, hIu, hvu, hsu, hM⟩)
    | succ n ih =>
      intro k u hk hIu hvu hcu hsu aa bb σ1 hM
      have hsr := sn_r hIu (i := x) (k := k) hx (by omega)
      have esn : sn u x k = sn s x k := sn_congr (hsu.1 0 rfl) (hsu.1 5 rfl) x k
      have eb : brk s x (n + 1) k = if 0 ≤ sn s x k ∧ (rget 37 (fun _ => false) s x k).1 < 0 then (k : Int) else brk s x n (k + 1) := rfl
      have er := (rget_cg 37 (fun _ => false) u s x k hsu.1).1
      obtain ⟨o1, o2, o3, o4⟩ := rget_ok 37 (fun _ => false) u x k hIu hx (by omega)
      obtain ⟨b1, b2, b3, b4, b5, b6, b7, b8⟩ := back_ok hIu hvu hcu hx (show k < 12 by omega)
      have e23 : u 23 0 = s 23 0 := congrFun (hsu.1 23 rfl) 0
      have next : ∀ (v : St) (σ2 : zh) (aa bb : Option Value), ¬ (0 ≤ sn s x k ∧ (rget 37 (fun _ => false) s x k).1 < 0) → Inv v → VI v → cpd v → seq v s → mR cI cZ cJ m0 ad σ v σ2 → zJ K D vwCl A 6 (zQ K D vwCl A (fun r σ' => ∃ s2 : St, r = some (iv (brk s x (n + 1) k)) ∧ Inv s2 ∧ VI s2 ∧ seq s2 s ∧ mR cI cZ cJ m0 ad σ s2 σ') 0 0) 0 0 σ2 65 [some (.ref m0), some (iv (x : Int)), some (iv (s 23 0)), some (iv (k : Int)), aa, bb] [] := by
        intro v σ2 aa bb hno h1 h2 h3 h4 hM
        rw [eb, if_neg hno]
        refine z_iinc C d_M_broken_65 rfl (by decide) ?_
        refine z_goto C 25 d_M_broken_68 (by decide) ?_
        have j := ih (k + 1) v (by omega) h1 h2 h3 h4 aa bb σ2 hM
        rw [show ((k + 1 : Nat) : Int) = (k : Int) + 1 from by omega] at j
        exact j
      refine z_iload_n C d_M_broken_25 rfl ?_
      refine z_bipush C d_M_broken_26 (by decide) ?_
      refine z_icmp_ge C 71 (by omega) (by omega) d_M_broken_28 (by decide) (fun h28 => absurd h28 (by omega)) (fun h28 => ?_)
      refine z_aload_n C d_M_broken_31 rfl ?_
      refine z_iload_n C d_M_broken_32 rfl ?_
      refine z_iload_n C d_M_broken_33 rfl ?_
      refine z_callV C hKl (cM_seen x k hF hIu hM.1 hx (by omega)) (zgood (fun _ h => h) tw_co_M_seen) rfl (hM.1.1) rfl tw_ml_M_111 tw_im_M_seen tw_se_M_seen tw_in_M pd_M_seen (by decide) rfl (Nat.le_of_ble_eq_true rfl) (by decide) d_M_broken_34 (fun r σ2 hp => ?_)
      obtain ⟨rfl, rfl⟩ := hp
      refine z_if_ge C 43 (by omega) d_M_broken_37 (by decide) (fun h37 => ?_) (fun h37 => ?_)
      · refine z_aload_n C d_M_broken_43 rfl ?_
        refine z_iload_n C d_M_broken_44 rfl ?_
        refine z_iload_n C d_M_broken_45 rfl ?_
        refine z_callV C hKl (cM_gets x k hF hIu hM.1 hx (by omega) hvu) (zgood (fun _ h => h) tw_co_M_gets) rfl (hM.1.1) rfl tw_ml_M_157 tw_im_M_gets tw_se_M_gets tw_in_M pd_M_gets (by decide) rfl (Nat.le_of_ble_eq_true rfl) (by decide) d_M_broken_46 (fun r σ' hp => ?_)
        obtain ⟨rfl, hp⟩ := hp
        have hM := hM.tr hp
        rw [b1]
        refine z_lstore C d_M_broken_49 (by decide) ?_
        refine z_aload_n C d_M_broken_51 rfl ?_
        refine z_iload_n C d_M_broken_52 rfl ?_
        refine z_callV C hKl (cM_takeBack (s 23 0) hF hM.1) (zgood (fun _ h => h) tw_co_M_takeBack) rfl (hM.1.1) rfl tw_ml_M_160 tw_im_M_takeBack tw_se_M_takeBack tw_in_M pd_M_takeBack (by decide) rfl (Nat.le_of_ble_eq_true rfl) (by decide) d_M_broken_53 (fun r σ' hp => ?_)
        obtain ⟨rfl, hp⟩ := hp
        have hM := hM.tr hp
        rw [← e23] at hM
        refine z_lload C d_M_broken_56 rfl ?_
        refine z_lconst C 0 d_M_broken_58 rfl ?_
        refine z_lcmp C (by omega) (by omega) d_M_broken_59 (fun v59 hv59 => ?_)
        refine z_if_ge C 65 (by omega) d_M_broken_60 (by decide) (fun h60 => ?_) (fun h60 => ?_)
        · exact next _ _ _ _ (by omega) b5 b6 b8 (b7.tr hsu) hM
        · refine z_iload_n C d_M_broken_63 rfl ?_
          exact z_iret C d_M_broken_64 (by decide) (by decide) (⟨_, by rw [eb, if_pos (by omega)], b5, b6, b7.tr hsu, hM⟩)
      · refine z_goto C 65 d_M_broken_40 (by decide) ?_
        exact next u _ aa bb (by omega) hIu hvu hcu hsu hM
  refine z_iload_n C d_M_broken_0 rfl ?_
  refine z_if_lt C 12 (by omega) d_M_broken_1 (by decide) (fun h1 => ?_) (fun h1 => ?_)
  · refine z_iconst C d_M_broken_12 ?_
    exact z_iret C d_M_broken_13 (by decide) (by decide) (⟨s, by rw [show sp_broken s i = -1 from if_pos (by omega)], hI, hv, seq.rf s, hM⟩)
  · refine z_iload_n C d_M_broken_4 rfl ?_
    refine z_aload_n C d_M_broken_5 rfl ?_
    refine m_get C hM in_M 1 (by decide) tw_fl_M_13 rfl rfl d_M_broken_6 ?_
    refine z_icmp_lt C 14 (by omega) (by omega) d_M_broken_9 (by decide) (fun h9 => ?_) (fun h9 => ?_)
    · obtain ⟨x, rfl⟩ := Int.eq_ofNat_of_zero_le (show 0 ≤ i by omega)
      have es : sp_broken s x = brk s x 12 0 := if_neg (by omega)
      rw [es]
      refine z_aload_n C d_M_broken_14 rfl ?_
      refine m_get C hM in_M 23 (by decide) tw_fl_M_129 rfl rfl d_M_broken_15 ?_
      refine z_istore_n C d_M_broken_18 (by decide) ?_
      refine z_aload_n C d_M_broken_19 rfl ?_
      refine z_callV C hKl (cM_keepCopies hF hM.1) (zgood (fun _ h => h) tw_co_M_keepCopies) rfl (hM.1.1) rfl tw_ml_M_154 tw_im_M_keepCopies tw_se_M_keepCopies tw_in_M pd_M_keepCopies (by decide) rfl (Nat.le_of_ble_eq_true rfl) (by decide) d_M_broken_20 (fun r σ' hp => ?_)
      obtain ⟨rfl, hp⟩ := hp
      have hM := hM.tr hp
      refine z_iconst C d_M_broken_23 ?_
      refine z_istore_n C d_M_broken_24 (by decide) ?_
      exact loop x (by omega) 12 0 (kcp s 36) (by omega) (kcp_inv hI) hv (kcp_cpd s) (kcp_seq s) none none _ hM
    · refine z_iconst C d_M_broken_12 ?_
      exact z_iret C d_M_broken_13 (by decide) (by decide) (⟨s, by rw [show sp_broken s i = -1 from if_pos (by omega)], hI, hv, seq.rf s, hM⟩)
end MC6
end
section
section MC7
variable {l : Launch} {D : va_G} {A : Nat → Prop} {cI cZ cJ cB : ClassId} {F : State → Prop} {m0 : Nat} {ad : Nat → Nat} {σ : zh} {s : St}
set_option maxRecDepth 100000 in
set_option maxHeartbeats 4000000 in
theorem cM_reach (i k : Int) (hF : zFok F A) (hI : Inv s) (hM : RM cI cZ cJ m0 ad s σ) (ri : -2147483648 ≤ i ∧ i ≤ 2147483647) (rk : -2147483648 ≤ k ∧ k ≤ 2147483647) : zM l D vwCl A (ztys cI cZ cJ cB) F y_M_reach ws_M_reach (zroom 1 0 0) [.ref m0, iv i, iv k] σ (fun r σ' => σ' = σ ∧ ((r = some (iv (-1)) ∧ (i < 0 ∨ s 1 0 ≤ i ∨ k < 0 ∨ 11 < k)) ∨ ((0 ≤ i ∧ i < s 1 0 ∧ 0 ≤ k ∧ k ≤ 11) ∧ ∃ M : Nat, clo s (pr i k) M ∧ r = some (iv ((ksm M 36 : Nat) : Int))))) := by
  refine zMet2 hF (by decide) (Nat.le_of_ble_eq_true rfl) (fun K hKl C => ?_)
  have hM := mR.rf hM
  have hinj := hI.inj
  have fin : ∀ M : Nat, (0 ≤ i ∧ i < s 1 0 ∧ 0 ≤ k ∧ k ≤ 11) → pr i k < 36 → M = (mrun s 1296 0 (2 ^ pr i k)) → M < 2 ^ 36 → ∀ (n q : Nat), q + n = 36 → ∀ a7 a8 : Option Value, zJ K D vwCl A 9 (zQ K D vwCl A (fun r σ' => σ' = σ ∧ ((r = some (iv (-1)) ∧ (i < 0 ∨ s 1 0 ≤ i ∨ k < 0 ∨ 11 < k)) ∨ ((0 ≤ i ∧ i < s 1 0 ∧ 0 ≤ k ∧ k ≤ 11) ∧ ∃ M : Nat, clo s (pr i k) M ∧ r = some (iv ((ksm M 36 : Nat) : Int))))) 0 0) 0 0 σ 178 [some (.ref m0), some (iv i), some (iv k), some (jv ((M : Nat) : Int)), none, some (iv ((ksm M q : Nat) : Int)), some (iv (q : Int)), a7, a8] [] := by
    intro M hok hpr36 hM1 hMlt n
    induction n with
    | zero =>
      intro q hq a7 a8
      have e : q = 36 := by omega
      subst e
      subst hM1
      refine z_iload C d_M_reach_178 rfl ?_
      refine z_bipush C d_M_reach_180 (by decide) ?_
      refine z_icmp_ge C 214 (by omega) (by omega) d_M_reach_182 (by decide) (fun h182 => ?_) (fun h182 => absurd h182 (by omega))
      refine z_iload C d_M_reach_214 rfl ?_
      exact z_iret C d_M_reach_216 (by decide) (by decide) (⟨rfl, Or.inr ⟨hok, _, mrun_clo hI hpr36, rfl⟩⟩)
    | succ n ih =>
      intro q hq a7 a8
      have hk2 := ksm_lt M q
      have hp2 : 2 ^ q < 2 ^ 64 := Nat.pow_lt_pow_right (by omega) (by omega)
      have hp3 : 2 ^ (q % 12) < 2 ^ 12 := Nat.pow_lt_pow_right (by omega) (by omega)
      have hle : M &&& 2 ^ q ≤ M := Nat.and_le_left
      refine z_iload C d_M_reach_178 rfl ?_
      refine z_bipush C d_M_reach_180 (by decide) ?_
      refine z_icmp_ge C 214 (by omega) (by omega) d_M_reach_182 (by decide) (fun h182 => absurd h182 (by omega)) (fun h182 => ?_)
      refine z_lload_n C d_M_reach_185 rfl ?_
      refine z_lconst C 1 d_M_reach_186 rfl ?_
      refine z_iload C d_M_reach_187 rfl ?_
      refine z_bshl C q rfl (by omega) d_M_reach_189 ?_
      refine z_band C (by omega) (by omega) d_M_reach_190 ?_
      refine z_lconst C 0 d_M_reach_191 rfl ?_
      refine z_lcmp C (by omega) (by omega) d_M_reach_192 (fun v192 hv192 => ?_)
      refine z_if_eq C 208 (by omega) d_M_reach_193 (by decide) (fun h193 => ?_) (fun h193 => ?_)
      · refine z_iinc C d_M_reach_208 rfl (by decide) ?_
        refine z_goto C 178 d_M_reach_211 (by decide) ?_
        have hbit : ¬ M.testBit q = true := (bit0 M q).mp (by omega)
        have j := ih (q + 1) (by omega) a7 a8
        rw [show ksm M (q + 1) = ksm M q from if_neg hbit, show ((q + 1 : Nat) : Int) = (q : Int) + 1 from by omega] at j
        exact j
      · have hbit : M.testBit q = true := by
          apply Classical.byContradiction
          intro z
          have := (bit0 M q).mpr z
          omega
        refine z_iload C d_M_reach_196 rfl ?_
        refine z_iconst C d_M_reach_198 ?_
        refine z_iload C d_M_reach_199 rfl ?_
        refine z_bipush C d_M_reach_201 (by decide) ?_
        refine z_irem C (by omega) (by omega) d_M_reach_203 ?_
        refine z_top (w := iv ((q % 12 : Nat) : Int)) (by rw [show (q : Int) % 12 = ((q % 12 : Nat) : Int) from by omega]) ?_
        refine z_bishl C (q % 12) rfl (by omega) d_M_reach_204 ?_
        refine z_bior C (by omega) (by omega) d_M_reach_205 ?_
        refine z_istore C d_M_reach_206 (by decide) ?_
        refine z_iinc C d_M_reach_208 rfl (by decide) ?_
        refine z_goto C 178 d_M_reach_211 (by decide) ?_
        have j := ih (q + 1) (by omega) a7 a8
        rw [show ksm M (q + 1) = ksm M q ||| 2 ^ (q % 12) from if_pos hbit, show ((q + 1 : Nat) : Int) = (q : Int) + 1 from by omega] at j
        exact j
  have loop : (0 ≤ i ∧ i < s 1 0 ∧ 0 ≤ k ∧ k ≤ 11) → pr i k < 36 → ∀ (n q : Nat), q + n = 1296 → ∀ a6 a7 a8 : Option Value, zJ K D vwCl A 9 (zQ K D vwCl A (fun r σ' => σ' = σ ∧ ((r = some (iv (-1)) ∧ (i < 0 ∨ s 1 0 ≤ i ∨ k < 0 ∨ 11 < k)) ∨ ((0 ≤ i ∧ i < s 1 0 ∧ 0 ≤ k ∧ k ≤ 11) ∧ ∃ M : Nat, clo s (pr i k) M ∧ r = some (iv ((ksm M 36 : Nat) : Int))))) 0 0) 0 0 σ 23 [some (.ref m0), some (iv i), some (iv k), some (jv (((mrun s q 0 (2 ^ pr i k)) : Nat) : Int)), none, some (iv (q : Int)), a6, a7, a8] [] := by
    intro hok hpr36 n
    induction n with
    | zero =>
      intro q hq a6 a7 a8
      have e : q = 1296 := by omega
      subst e
      have hlt := mrun_lt hI 1296 0 (2 ^ pr i k) (pow_lt36 hpr36)
      refine z_iload C d_M_reach_23 rfl ?_
      refine z_sipush C d_M_reach_25 (by decide) ?_
      refine z_icmp_ge C 172 (by omega) (by omega) d_M_reach_28 (by decide) (fun h28 => ?_) (fun h28 => absurd h28 (by omega))
      refine z_iconst C d_M_reach_172 ?_
      refine z_istore C d_M_reach_173 (by decide) ?_
      refine z_iconst C d_M_reach_175 ?_
      refine z_istore C d_M_reach_176 (by decide) ?_
      exact fin (mrun s 1296 0 (2 ^ pr i k)) hok hpr36 rfl hlt 36 0 (by omega) _ _
    | succ n ih =>
      intro q hq a6 a7 a8
      have hlt := mrun_lt hI q 0 (2 ^ pr i k) (pow_lt36 hpr36)
      have estep : (mrun s (q + 1) 0 (2 ^ pr i k)) = if (mrun s q 0 (2 ^ pr i k)).testBit (q % 36) = true then (mrun s q 0 (2 ^ pr i k)) ||| nxt s (q % 36) else (mrun s q 0 (2 ^ pr i k)) := mrun_s s q _
      have next : ∀ M' : Nat, M' = (mrun s (q + 1) 0 (2 ^ pr i k)) → ∀ a6 a7 a8 : Option Value, zJ K D vwCl A 9 (zQ K D vwCl A (fun r σ' => σ' = σ ∧ ((r = some (iv (-1)) ∧ (i < 0 ∨ s 1 0 ≤ i ∨ k < 0 ∨ 11 < k)) ∨ ((0 ≤ i ∧ i < s 1 0 ∧ 0 ≤ k ∧ k ≤ 11) ∧ ∃ M : Nat, clo s (pr i k) M ∧ r = some (iv ((ksm M 36 : Nat) : Int))))) 0 0) 0 0 σ 166 [some (.ref m0), some (iv i), some (iv k), some (jv ((M' : Nat) : Int)), none, some (iv (q : Int)), a6, a7, a8] [] := by
        intro M' e a6 a7 a8
        subst e
        refine z_iinc C d_M_reach_166 rfl (by decide) ?_
        refine z_goto C 23 d_M_reach_169 (by decide) ?_
        have j := ih (q + 1) (by omega) a6 a7 a8
        rw [show ((q + 1 : Nat) : Int) = (q : Int) + 1 from by omega] at j
        exact j
      generalize hMq : (mrun s q 0 (2 ^ pr i k)) = M at hlt estep ⊢
      have hp2 : 2 ^ (q % 36) < 2 ^ 36 := pow_lt36 (Nat.mod_lt _ (by omega))
      have hle : M &&& 2 ^ (q % 36) ≤ M := Nat.and_le_left
      have hsr := sn_r hI (i := q % 36 / 12) (k := q % 36 % 12) (by omega) (by omega)
      refine z_iload C d_M_reach_23 rfl ?_
      refine z_sipush C d_M_reach_25 (by decide) ?_
      refine z_icmp_ge C 172 (by omega) (by omega) d_M_reach_28 (by decide) (fun h28 => absurd h28 (by omega)) (fun h28 => ?_)
      refine z_iload C d_M_reach_31 rfl ?_
      refine z_bipush C d_M_reach_33 (by decide) ?_
      refine z_irem C (by omega) (by omega) d_M_reach_35 ?_
      refine z_top (w := iv ((q % 36 : Nat) : Int)) (by rw [show (q : Int) % 36 = ((q % 36 : Nat) : Int) from by omega]) ?_
      refine z_istore C d_M_reach_36 (by decide) ?_
      refine z_lload_n C d_M_reach_38 rfl ?_
      refine z_lconst C 1 d_M_reach_39 rfl ?_
      refine z_iload C d_M_reach_40 rfl ?_
      refine z_bshl C (q % 36) rfl (by omega) d_M_reach_42 ?_
      refine z_band C (by omega) (by omega) d_M_reach_43 ?_
      refine z_lconst C 0 d_M_reach_44 rfl ?_
      refine z_lcmp C (by omega) (by omega) d_M_reach_45 (fun v45 hv45 => ?_)
      refine z_if_ne C 52 (by omega) d_M_reach_46 (by decide) (fun h46 => ?_) (fun h46 => ?_)
      · have hbit : M.testBit (q % 36) = true := by
          apply Classical.byContradiction
          intro z
          have := (bit0 M (q % 36)).mpr z
          omega
        refine z_aload_n C d_M_reach_52 rfl ?_
        refine z_iload C d_M_reach_53 rfl ?_
        refine z_bipush C d_M_reach_55 (by decide) ?_
        refine z_idiv C (by omega) (by omega) d_M_reach_57 ?_
        refine z_top (w := iv (((q % 36) / 12 : Nat) : Int)) (by rw [show (((q % 36) : Nat) : Int) / 12 = (((q % 36) / 12 : Nat) : Int) from by omega]) ?_
        refine z_iload C d_M_reach_58 rfl ?_
        refine z_bipush C d_M_reach_60 (by decide) ?_
        refine z_irem C (by omega) (by omega) d_M_reach_62 ?_
        refine z_top (w := iv ((q % 36 % 12 : Nat) : Int)) (by rw [show ((q % 36 : Nat) : Int) % 12 = ((q % 36 % 12 : Nat) : Int) from by omega]) ?_
        refine z_callV C hKl (cM_seen (q % 36 / 12) (q % 36 % 12) hF hI hM.1 (by omega) (by omega)) (zgood (fun _ h => h) tw_co_M_seen) rfl (hM.1.1) rfl tw_ml_M_111 tw_im_M_seen tw_se_M_seen tw_in_M pd_M_seen (by decide) rfl (Nat.le_of_ble_eq_true rfl) (by decide) d_M_reach_63 (fun r σ hp => ?_)
        obtain ⟨rfl, rfl⟩ := hp
        refine z_istore C d_M_reach_66 (by decide) ?_
        refine z_iload C d_M_reach_68 rfl ?_
        refine z_if_ge C 76 (by omega) d_M_reach_70 (by decide) (fun h70 => ?_) (fun h70 => ?_)
        · obtain ⟨a, ha, ea, h0, -⟩ := hI.seen (i := q % 36 / 12) (key := q % 36 % 12) (by omega) (by omega) (by omega)
          rw [ea]
          have enx : nxt s (q % 36) = if s 5 a = 2 then 2 ^ (a / 12 * 12 + (s 6 a).toNat) else if s 5 a = 3 then nxn s a (s 8 a).toNat else 0 := by
            unfold nxt
            rw [if_neg (by omega), ea, Int.toNat_natCast]
            rfl
          have hkd := hI.kd a
          have hnn := hI.nn a
          have hnu := hI.nu a
          unfold r32 at hnu
          have inner : s 5 a = 3 → ∀ (n2 x : Nat), x + n2 = (s 8 a).toNat → ∀ a6 : Option Value, zJ K D vwCl A 9 (zQ K D vwCl A (fun r σ' => σ' = σ ∧ ((r = some (iv (-1)) ∧ (i < 0 ∨ s 1 0 ≤ i ∨ k < 0 ∨ 11 < k)) ∨ ((0 ≤ i ∧ i < s 1 0 ∧ 0 ≤ k ∧ k ≤ 11) ∧ ∃ M : Nat, clo s (pr i k) M ∧ r = some (iv ((ksm M 36 : Nat) : Int))))) 0 0) 0 0 σ 111 [some (.ref m0), some (iv i), some (iv k), some (jv (((M ||| nxn s a x) : Nat) : Int)), none, some (iv (q : Int)), a6, some (iv (a : Int)), some (iv (x : Int))] [] := by
            intro h3 n2
            induction n2 with
            | zero =>
              intro x hx a6
              have e : x = (s 8 a).toNat := by omega
              subst e
              refine z_iload C d_M_reach_111 rfl ?_
              refine z_aload_n C d_M_reach_113 rfl ?_
              refine m_get C hM in_M 8 (by decide) tw_fl_M_33 rfl rfl d_M_reach_114 ?_
              refine z_iload C d_M_reach_117 rfl ?_
              refine m_iald C hM 8 rfl (n := 36) (fun _ => rfl) (a) (by omega) (by omega) (by decide) d_M_reach_119 ?_
              refine z_icmp_ge C 166 (by omega) (by omega) d_M_reach_120 (by decide) (fun h120 => ?_) (fun h120 => absurd h120 (by omega))
              exact next _ (by rw [estep, if_pos hbit, enx, if_neg (by omega), if_pos h3]) _ _ _
            | succ n2 ih2 =>
              intro x hx a6
              have hnk := hI.nk (4 * a + x)
              have h1 := nxn_lt hI ha x
              have h2 : M ||| nxn s a x < 2 ^ 36 := Nat.or_lt_two_pow hlt h1
              have h4 : 2 ^ (a / 12 * 12 + (s 9 (4 * a + x)).toNat) < 2 ^ 36 := pow_lt36 (by omega)
              refine z_iload C d_M_reach_111 rfl ?_
              refine z_aload_n C d_M_reach_113 rfl ?_
              refine m_get C hM in_M 8 (by decide) tw_fl_M_33 rfl rfl d_M_reach_114 ?_
              refine z_iload C d_M_reach_117 rfl ?_
              refine m_iald C hM 8 rfl (n := 36) (fun _ => rfl) (a) (by omega) (by omega) (by decide) d_M_reach_119 ?_
              refine z_icmp_ge C 166 (by omega) (by omega) d_M_reach_120 (by decide) (fun h120 => absurd h120 (by omega)) (fun h120 => ?_)
              refine z_aload_n C d_M_reach_123 rfl ?_
              refine m_get C hM in_M 5 (by decide) tw_fl_M_24 rfl rfl d_M_reach_124 ?_
              refine z_iload C d_M_reach_127 rfl ?_
              refine m_iald C hM 5 rfl (n := 36) (fun _ => rfl) (a) (by omega) (by omega) (by decide) d_M_reach_129 ?_
              refine z_iconst C d_M_reach_130 ?_
              refine z_icmp_ne C 166 (by omega) (by omega) d_M_reach_131 (by decide) (fun h131 => absurd h131 (by omega)) (fun h131 => ?_)
              refine z_lload_n C d_M_reach_134 rfl ?_
              refine z_lconst C 1 d_M_reach_135 rfl ?_
              refine z_iload C d_M_reach_136 rfl ?_
              refine z_bipush C d_M_reach_138 (by decide) ?_
              refine z_idiv C (by omega) (by omega) d_M_reach_140 ?_
              refine z_top (w := iv ((a / 12 : Nat) : Int)) (by rw [show ((a : Nat) : Int) / 12 = ((a / 12 : Nat) : Int) from by omega]) ?_
              refine z_bipush C d_M_reach_141 (by decide) ?_
              refine z_imul C d_M_reach_143 ?_
              refine z_aload_n C d_M_reach_144 rfl ?_
              refine m_get C hM in_M 9 (by decide) tw_fl_M_36 rfl rfl d_M_reach_145 ?_
              refine z_iconst C d_M_reach_148 ?_
              refine z_iload C d_M_reach_149 rfl ?_
              refine z_imul C d_M_reach_151 ?_
              refine z_iload C d_M_reach_152 rfl ?_
              refine z_iadd C d_M_reach_154 ?_
              refine m_iald C hM 9 rfl (n := 144) (fun _ => rfl) (4 * a + x) (by omega) (by omega) (by decide) d_M_reach_155 ?_
              refine z_iadd C d_M_reach_156 ?_
              refine z_bshl C (a / 12 * 12 + (s 9 (4 * a + x)).toNat) (by omega) (by omega) d_M_reach_157 ?_
              refine z_bor C (by omega) (by omega) d_M_reach_158 ?_
              refine z_lstore_n C d_M_reach_159 (by decide) ?_
              refine z_iinc C d_M_reach_160 rfl (by decide) ?_
              refine z_goto C 111 d_M_reach_163 (by decide) ?_
              have j := ih2 (x + 1) (by omega) a6
              rw [show nxn s a (x + 1) = nxn s a x ||| 2 ^ (a / 12 * 12 + (s 9 (4 * a + x)).toNat) from rfl, ← Nat.or_assoc, show ((x + 1 : Nat) : Int) = (x : Int) + 1 from by omega] at j
              exact j
          have other : s 5 a ≠ 3 → ∀ M2 : Nat, M2 = (mrun s (q + 1) 0 (2 ^ pr i k)) → ∀ a6 : Option Value, zJ K D vwCl A 9 (zQ K D vwCl A (fun r σ' => σ' = σ ∧ ((r = some (iv (-1)) ∧ (i < 0 ∨ s 1 0 ≤ i ∨ k < 0 ∨ 11 < k)) ∨ ((0 ≤ i ∧ i < s 1 0 ∧ 0 ≤ k ∧ k ≤ 11) ∧ ∃ M : Nat, clo s (pr i k) M ∧ r = some (iv ((ksm M 36 : Nat) : Int))))) 0 0) 0 0 σ 111 [some (.ref m0), some (iv i), some (iv k), some (jv ((M2 : Nat) : Int)), none, some (iv (q : Int)), a6, some (iv (a : Int)), some (iv 0)] [] := by
            intro h3 M2 e a6
            refine z_iload C d_M_reach_111 rfl ?_
            refine z_aload_n C d_M_reach_113 rfl ?_
            refine m_get C hM in_M 8 (by decide) tw_fl_M_33 rfl rfl d_M_reach_114 ?_
            refine z_iload C d_M_reach_117 rfl ?_
            refine m_iald C hM 8 rfl (n := 36) (fun _ => rfl) (a) (by omega) (by omega) (by decide) d_M_reach_119 ?_
            refine z_icmp_ge C 166 (by omega) (by omega) d_M_reach_120 (by decide) (fun h120 => ?_) (fun h120 => ?_)
            · exact next _ e _ _ _
            · refine z_aload_n C d_M_reach_123 rfl ?_
              refine m_get C hM in_M 5 (by decide) tw_fl_M_24 rfl rfl d_M_reach_124 ?_
              refine z_iload C d_M_reach_127 rfl ?_
              refine m_iald C hM 5 rfl (n := 36) (fun _ => rfl) (a) (by omega) (by omega) (by decide) d_M_reach_129 ?_
              refine z_iconst C d_M_reach_130 ?_
              refine z_icmp_ne C 166 (by omega) (by omega) d_M_reach_131 (by decide) (fun h131 => ?_) (fun h131 => absurd h131 (by omega))
              exact next _ e _ _ _
          refine z_aload_n C d_M_reach_76 rfl ?_
          refine m_get C hM in_M 5 (by decide) tw_fl_M_24 rfl rfl d_M_reach_77 ?_
          refine z_iload C d_M_reach_80 rfl ?_
          refine m_iald C hM 5 rfl (n := 36) (fun _ => rfl) (a) (by omega) (by omega) (by decide) d_M_reach_82 ?_
          refine z_iconst C d_M_reach_83 ?_
          refine z_icmp_ne C 108 (by omega) (by omega) d_M_reach_84 (by decide) (fun h84 => ?_) (fun h84 => ?_)
          · refine z_iconst C d_M_reach_108 ?_
            refine z_istore C d_M_reach_109 (by decide) ?_
            by_cases h3 : s 5 a = 3
            · have j := inner h3 (s 8 a).toNat 0 (by omega) (some (iv ((q % 36 : Nat) : Int)))
              rw [show nxn s a 0 = 0 from rfl, Nat.or_zero] at j
              exact j
            · exact other h3 _ (by rw [estep, if_pos hbit, enx, if_neg (by omega), if_neg h3, Nat.or_zero]) _
          · have hlk := hI.lk (p := a) (by omega)
            have h4 : 2 ^ (a / 12 * 12 + (s 6 a).toNat) < 2 ^ 36 := pow_lt36 (by omega)
            refine z_lload_n C d_M_reach_87 rfl ?_
            refine z_lconst C 1 d_M_reach_88 rfl ?_
            refine z_iload C d_M_reach_89 rfl ?_
            refine z_bipush C d_M_reach_91 (by decide) ?_
            refine z_idiv C (by omega) (by omega) d_M_reach_93 ?_
            refine z_top (w := iv ((a / 12 : Nat) : Int)) (by rw [show ((a : Nat) : Int) / 12 = ((a / 12 : Nat) : Int) from by omega]) ?_
            refine z_bipush C d_M_reach_94 (by decide) ?_
            refine z_imul C d_M_reach_96 ?_
            refine z_aload_n C d_M_reach_97 rfl ?_
            refine m_get C hM in_M 6 (by decide) tw_fl_M_27 rfl rfl d_M_reach_98 ?_
            refine z_iload C d_M_reach_101 rfl ?_
            refine m_iald C hM 6 rfl (n := 36) (fun _ => rfl) (a) (by omega) (by omega) (by decide) d_M_reach_103 ?_
            refine z_iadd C d_M_reach_104 ?_
            refine z_bshl C (a / 12 * 12 + (s 6 a).toNat) (by omega) (by omega) d_M_reach_105 ?_
            refine z_bor C (by omega) (by omega) d_M_reach_106 ?_
            refine z_lstore_n C d_M_reach_107 (by decide) ?_
            refine z_iconst C d_M_reach_108 ?_
            refine z_istore C d_M_reach_109 (by decide) ?_
            exact other (by omega) _ (by rw [estep, if_pos hbit, enx, if_pos (by omega)]) _
        · refine z_goto C 166 d_M_reach_73 (by decide) ?_
          exact next M (by rw [estep, if_pos hbit, show nxt s (q % 36) = 0 from if_pos (by omega), Nat.or_zero]) _ _ _
      · have hbit : ¬ M.testBit (q % 36) = true := (bit0 M (q % 36)).mp (by omega)
        refine z_goto C 166 d_M_reach_49 (by decide) ?_
        exact next M (by rw [estep, if_neg hbit]) _ _ _
  refine z_aload_n C d_M_reach_0 rfl ?_
  refine z_iload_n C d_M_reach_1 rfl ?_
  refine z_iload_n C d_M_reach_2 rfl ?_
  refine z_callV C hKl (cM_noPair i k hF hI hM.1 ri rk) (zgood (fun _ h => h) tw_co_M_noPair) rfl (hM.1.1) rfl tw_ml_M_88 tw_im_M_noPair tw_se_M_noPair tw_in_M pd_M_noPair (by decide) rfl (Nat.le_of_ble_eq_true rfl) (by decide) d_M_reach_3 (fun r σ hp => ?_)
  obtain ⟨rfl, b, rfl, hb⟩ := hp
  refine z_if_eq C 11 (by omega) d_M_reach_6 (by decide) (fun h6 => ?_) (fun h6 => ?_)
  · have hpr : ((pr i k : Nat) : Int) = 12 * i + k := by unfold pr; omega
    refine z_lconst C 1 d_M_reach_11 rfl ?_
    refine z_bipush C d_M_reach_12 (by decide) ?_
    refine z_iload_n C d_M_reach_14 rfl ?_
    refine z_imul C d_M_reach_15 ?_
    refine z_iload_n C d_M_reach_16 rfl ?_
    refine z_iadd C d_M_reach_17 ?_
    refine z_bshl C (pr i k) (by omega) (by omega) d_M_reach_18 ?_
    refine z_lstore_n C d_M_reach_19 (by decide) ?_
    refine z_iconst C d_M_reach_20 ?_
    refine z_istore C d_M_reach_21 (by decide) ?_
    exact loop (by omega) (by omega) 1296 0 (by omega) none none none
  · refine z_iconst C d_M_reach_9 ?_
    exact z_iret C d_M_reach_10 (by decide) (by decide) (⟨rfl, Or.inl ⟨rfl, by omega⟩⟩)
end MC7
end
section
/-! THE CLASS'S WORLD. X: its addresses (0 the object, 1 parents, 2 bindings, 3 makers, 4 values, 5 gathered, 6 the buffer, 7 its keys, 8 its lazy, 9 .. 11 the constants of Kind); O: what is its own; bnd, mkr: what the arrays of bindings and makers hold; g: values, gathered, the buffer's keys and lazy; s: the state; kp, wk: kept and inWork of each pair's binding -/
def NDk (cI cZ : ClassId) (O : Nat → Prop) (σ : zh) (nd ka la : Nat) (sz : Int) (kf zf : Nat → Int) : Prop := (O nd ∧ O ka ∧ O la) ∧ σ nd = some (ob 1 [.ref ka, .ref la, iv sz]) ∧ σ ka = some (ia cI 4 kf) ∧ σ la = some (ia cZ 4 zf) ∧ (0 ≤ sz ∧ sz ≤ 4) ∧ (∀ j, 0 ≤ kf j ∧ kf j ≤ 11) ∧ ∀ j, zf j = 0 ∨ zf j = 1
def NBd (X : Nat → Nat) (nd ka la : Nat) : Prop := nd ≠ X 6 ∧ ka ≠ X 7 ∧ ka ≠ X 8 ∧ la ≠ X 7 ∧ la ≠ X 8
def BB (cI cZ : ClassId) (X : Nat → Nat) (O : Nat → Prop) (σ : zh) (a kd : Nat) (inj key con sc kept iw sz : Int) (kf zf : Nat → Int) : Prop := O a ∧ ∃ nd ka la, σ a = some (ob 0 [.ref kd, iv inj, iv key, iv con, iv sc, .ref nd, iv kept, iv iw]) ∧ NDk cI cZ O σ nd ka la sz kf zf ∧ NBd X nd ka la
def BK (X : Nat → Nat) (s : St) (p kd : Nat) (con sc sz : Int) (kf zf : Nat → Int) : Prop := (s 5 p = 1 ∧ kd = X 9 ∧ con = s 6 p ∧ sc = 0 ∧ sz = 0) ∨ (s 5 p = 2 ∧ kd = X 10 ∧ sc = 0 ∧ sz = 1 ∧ kf 0 = s 6 p) ∨ (s 5 p = 3 ∧ kd = X 11 ∧ sc = s 7 p ∧ sz = s 8 p ∧ ∀ j : Nat, (j : Int) < sz → kf j = s 9 (4 * p + j) ∧ zf j = s 10 (4 * p + j))
def xB (cI cZ : ClassId) (X : Nat → Nat) (O : Nat → Prop) (bnd : Nat → Option Nat) (s : St) (kp wk : Nat → Int) (σ : zh) (p : Nat) : Prop := (bnd p = none ∧ s 5 p = 0) ∨ ∃ (a kd : Nat) (con sc sz : Int) (kf zf : Nat → Int), bnd p = some a ∧ BB cI cZ X O σ a kd ((p / 12 : Nat) : Int) ((p % 12 : Nat) : Int) con sc (kp p) (wk p) sz kf zf ∧ BK X s p kd con sc sz kf zf
def xMk (cI cZ : ClassId) (X : Nat → Nat) (O : Nat → Prop) (mkr : Nat → Option Nat) (s : St) (σ : zh) (i : Nat) : Prop := ∃ (a kd : Nat) (con kept iw : Int) (kf zf : Nat → Int), mkr i = some a ∧ BB cI cZ X O σ a kd (s 17 i) (s 16 i) con (s 18 i) kept iw (s 19 i) kf zf ∧ ∀ j : Nat, (j : Int) < s 19 i → kf j = s 20 (4 * i + j) ∧ zf j = s 21 (4 * i + j)
def xfs (X : Nat → Nat) (s : St) : List Value := [.ref (X 1), .ref (X 2), .ref (X 3), .ref (X 4), .ref (X 5), .ref (X 6), iv (s 1 0), iv (s 23 0), iv (s 15 0)]
def xG (cI cZ cJ cB : ClassId) (X : Nat → Nat) (O : Nat → Prop) (bnd mkr : Nat → Option Nat) (g : Nat → Nat → Int) (s : St) (kp wk : Nat → Int) (σ : zh) : Prop :=
  (O (X 0) ∧ O (X 1) ∧ O (X 2) ∧ O (X 3) ∧ O (X 4) ∧ O (X 5)) ∧ σ (X 0) = some (ob 2 (xfs X s)) ∧ σ (X 1) = some (ia cI 3 (s 0)) ∧ σ (X 2) = some (ra cB 36 bnd) ∧ σ (X 3) = some (ra cB 100 mkr) ∧ σ (X 4) = some (la cJ 400 (g 0)) ∧ σ (X 5) = some (la cJ 144 (g 1)) ∧
  (NDk cI cZ O σ (X 6) (X 7) (X 8) (s 4 0) (g 2) (g 3) ∧ X 7 ≠ X 8) ∧ (∀ j : Nat, (j : Int) < s 4 0 → g 2 j = s 2 j ∧ g 3 j = s 3 j) ∧
  (∀ p, p < 36 → xB cI cZ X O bnd s kp wk σ p) ∧ (∀ i : Nat, (i : Int) < s 23 0 → xMk cI cZ X O mkr s σ i) ∧ (∀ i j : Nat, (i : Int) < s 23 0 → (j : Int) < s 19 i → g 0 (4 * i + j) = s 22 (4 * i + j)) ∧ (∀ p, wk p = 0 ∨ wk p = 1) ∧ (∀ p, -1 ≤ kp p ∧ kp p ≤ 200) ∧ X 9 ≠ X 10 ∧ X 9 ≠ X 11 ∧ X 10 ≠ X 11
/-- the class's world as a call finds it and leaves it -/
def xR (cI cZ cJ cB : ClassId) (X : Nat → Nat) (O : Nat → Prop) (s : St) (σ : zh) : Prop := ∃ (bnd mkr : Nat → Option Nat) (g : Nat → Nat → Int), xG cI cZ cJ cB X O bnd mkr g s (fun p => kpt s p - 1) (fun _ => 0) σ
/-- all that is not the class's own is as it was -/
def xfr (O O' : Nat → Prop) (σ σ' : zh) : Prop := ∀ a e, σ a = some e → ¬ O a → σ' a = some e ∧ ¬ O' a
theorem xfr.rf {O : Nat → Prop} {σ : zh} : xfr O O σ σ := fun _ _ h1 h2 => ⟨h1, h2⟩
theorem xfr.tr {O O' O'' : Nat → Prop} {σ σ' σ'' : zh} (h : xfr O O' σ σ') (k : xfr O' O'' σ' σ'') : xfr O O'' σ σ'' := fun a e h1 h2 => k a e (h a e h1 h2).1 (h a e h1 h2).2
theorem xfr.put {O : Nat → Prop} {σ : zh} {a : Nat} {e : va_E} (ha : O a) : xfr O O σ (zput σ a e) := fun b x h1 h2 => ⟨(zput_n (fun z : b = a => h2 (by rw [z]; exact ha))).trans h1, h2⟩
/-! a write keeps the records that lie elsewhere -/
theorem NDk.keep {cI cZ : ClassId} {O : Nat → Prop} {σ : zh} {nd ka la : Nat} {sz : Int} {kf zf : Nat → Int} {b : Nat} {e : va_E} (h : NDk cI cZ O σ nd ka la sz kf zf) (h1 : nd ≠ b) (h2 : ka ≠ b) (h3 : la ≠ b) : NDk cI cZ O (zput σ b e) nd ka la sz kf zf := by
  obtain ⟨k1, k2, k3, k4, k5⟩ := h
  exact ⟨k1, by rw [zput_n h1]; exact k2, by rw [zput_n h2]; exact k3, by rw [zput_n h3]; exact k4, k5⟩
/-- the cells that hold no part of a binding or of needs -/
def xoff (cI cZ : ClassId) (e : va_E) : Prop := (∀ fs, e ≠ ob 0 fs) ∧ (∀ fs, e ≠ ob 1 fs) ∧ (∀ f, e ≠ ia cI 4 f) ∧ ∀ f, e ≠ ia cZ 4 f
theorem NDk.off {cI cZ : ClassId} {O : Nat → Prop} {σ : zh} {nd ka la : Nat} {sz : Int} {kf zf : Nat → Int} {b : Nat} {e e0 : va_E} (h : NDk cI cZ O σ nd ka la sz kf zf) (hb : σ b = some e0) (ho : xoff cI cZ e0) : NDk cI cZ O (zput σ b e) nd ka la sz kf zf := by
  refine h.keep (fun z => ?_) (fun z => ?_) (fun z => ?_)
  · subst z; exact ho.2.1 _ (Option.some.inj (hb.symm.trans h.2.1))
  · subst z; exact ho.2.2.1 _ (Option.some.inj (hb.symm.trans h.2.2.1))
  · subst z; exact ho.2.2.2 _ (Option.some.inj (hb.symm.trans h.2.2.2.1))
theorem BB.off {cI cZ : ClassId} {X : Nat → Nat} {O : Nat → Prop} {σ : zh} {a kd : Nat} {inj key con sc kept iw sz : Int} {kf zf : Nat → Int} {b : Nat} {e e0 : va_E} (h : BB cI cZ X O σ a kd inj key con sc kept iw sz kf zf) (hb : σ b = some e0) (ho : xoff cI cZ e0) : BB cI cZ X O (zput σ b e) a kd inj key con sc kept iw sz kf zf := by
  obtain ⟨h1, nd, ka, la, h2, h3, h4⟩ := h
  refine ⟨h1, nd, ka, la, ?_, h3.off hb ho, h4⟩
  rw [zput_n (fun z => ?_)]
  · exact h2
  · subst z; rw [hb] at h2; exact ho.1 _ (Option.some.inj h2)
theorem xB.off {cI cZ : ClassId} {X : Nat → Nat} {O : Nat → Prop} {bnd : Nat → Option Nat} {s : St} {kp wk : Nat → Int} {σ : zh} {p b : Nat} {e e0 : va_E} (h : xB cI cZ X O bnd s kp wk σ p) (hb : σ b = some e0) (ho : xoff cI cZ e0) : xB cI cZ X O bnd s kp wk (zput σ b e) p := by
  rcases h with h | ⟨a, kd, con, sc, sz, kf, zf, h1, h2, h3⟩
  · exact Or.inl h
  · exact Or.inr ⟨a, kd, con, sc, sz, kf, zf, h1, h2.off hb ho, h3⟩
theorem xMk.off {cI cZ : ClassId} {X : Nat → Nat} {O : Nat → Prop} {mkr : Nat → Option Nat} {s : St} {σ : zh} {i b : Nat} {e e0 : va_E} (h : xMk cI cZ X O mkr s σ i) (hb : σ b = some e0) (ho : xoff cI cZ e0) : xMk cI cZ X O mkr s (zput σ b e) i := by
  obtain ⟨a, kd, con, kept, iw, kf, zf, h1, h2, h3⟩ := h
  exact ⟨a, kd, con, kept, iw, kf, zf, h1, h2.off hb ho, h3⟩
theorem xoff_o2 {cI cZ : ClassId} {fs : List Value} : xoff cI cZ (ob 2 fs) := ⟨fun _ h => (by cases h), fun _ h => (by cases h), fun _ h => (by cases h), fun _ h => (by cases h)⟩
theorem xoff_la {cI cZ c : ClassId} {n : Nat} {f : Nat → Int} : xoff cI cZ (la c n f) := ⟨fun _ h => (by cases h), fun _ h => (by cases h), fun _ h => (by cases h), fun _ h => (by cases h)⟩
theorem xoff_ra {cI cZ c : ClassId} {n : Nat} {f : Nat → Option Nat} : xoff cI cZ (ra c n f) := ⟨fun _ h => (by cases h), fun _ h => (by cases h), fun _ h => (by cases h), fun _ h => (by cases h)⟩
theorem xoff_i3 {cI cZ c : ClassId} {f : Nat → Int} : xoff cI cZ (ia c 3 f) := ⟨fun _ h => (by cases h), fun _ h => (by cases h), fun _ h => (by cases h), fun _ h => (by cases h)⟩
/-! what stays of the tables: the nest's links, the constants of Kind -/
def nestW : List Cond := [.fieldLinkNest "InjectorTree" 118 "InjectorTree$Needs" "keys" "[I" "InjectorTree", .fieldLinkNest "InjectorTree" 111 "InjectorTree$Needs" "lazy" "[Z" "InjectorTree", .fieldLinkNest "InjectorTree" 47 "InjectorTree$Needs" "size" "I" "InjectorTree", .fieldLinkNest "InjectorTree" 164 "InjectorTree$Binding" "kind" "LInjectorTree$Kind;" "InjectorTree", .fieldLinkNest "InjectorTree" 115 "InjectorTree$Binding" "injector" "I" "InjectorTree", .fieldLinkNest "InjectorTree" 121 "InjectorTree$Binding" "key" "I" "InjectorTree", .fieldLinkNest "InjectorTree" 169 "InjectorTree$Binding" "constant" "I" "InjectorTree", .fieldLinkNest "InjectorTree" 88 "InjectorTree$Binding" "scope" "I" "InjectorTree", .fieldLinkNest "InjectorTree" 108 "InjectorTree$Binding" "needs" "LInjectorTree$Needs;" "InjectorTree", .fieldLinkNest "InjectorTree" 91 "InjectorTree$Binding" "kept" "I" "InjectorTree", .fieldLinkNest "InjectorTree" 172 "InjectorTree$Binding" "inWork" "Z" "InjectorTree", .methodLinkNest "InjectorTree" 35 y_N_init "InjectorTree", .methodLinkNest "InjectorTree" 50 y_N_append "InjectorTree", .methodLinkNest "InjectorTree" 68 y_B_init "InjectorTree"]
def zF (A : Nat → Prop) (X : Nat → Nat) (U : State) : Prop := (∀ w ∈ nestW, va_Nw w U) ∧ va_AO "InjectorTree$Binding" U ∧ va_Z "InjectorTree$Kind" "CONSTANT" "LInjectorTree$Kind;" (.ref (X 9)) A U U.heap ∧ va_Z "InjectorTree$Kind" "LINK" "LInjectorTree$Kind;" (.ref (X 10)) A U U.heap ∧ va_Z "InjectorTree$Kind" "CLASS" "LInjectorTree$Kind;" (.ref (X 11)) A U U.heap
theorem zF_ok (A : Nat → Prop) (X : Nat → Nat) : zFok (zF A X) A := by
  refine ⟨fun U g mk a h => ?_, fun s U hW h1 h2 h => ?_⟩
  · obtain ⟨k1, k2, k3, k4, k5⟩ := h
    refine ⟨fun w hw => ?_, va_AO.moved (u := U) (U := U.calling g mk a) (Vm.Alike.refl U.vm) k2, va_Z.moved (u := U) (U := U.calling g mk a) (Vm.Alike.refl U.vm) k3, va_Z.moved (u := U) (U := U.calling g mk a) (Vm.Alike.refl U.vm) k4, va_Z.moved (u := U) (U := U.calling g mk a) (Vm.Alike.refl U.vm) k5⟩
    have hon : w.onTables = true := (show ∀ w ∈ nestW, w.onTables = true by decide) w hw
    exact va_Nw.same hon (u := U) (U := U.calling g mk a) rfl (k1 w hw)
  · obtain ⟨k1, k2, k3, k4, k5⟩ := h
    refine ⟨fun w hw => ?_, va_AO.moved hW.alike k2, (k3.kept (fun a ha hA => h2 a ha hA)).moved hW.alike, (k4.kept (fun a ha hA => h2 a ha hA)).moved hW.alike, (k5.kept (fun a ha hA => h2 a ha hA)).moved hW.alike⟩
    have kw := k1 w hw
    unfold nestW at hw
    simp only [List.mem_cons, List.not_mem_nil, or_false] at hw
    rcases hw with rfl | rfl | rfl | rfl | rfl | rfl | rfl | rfl | rfl | rfl | rfl | rfl | rfl | rfl
    all_goals first | exact va_Nw.warmF hW kw | exact va_Nw.warmM hW kw
theorem nl_118 {A : Nat → Prop} {X : Nat → Nat} : ∀ s : State, zF A X s → va_Nw (.fieldLinkNest "InjectorTree" 118 "InjectorTree$Needs" "keys" "[I" "InjectorTree") s := fun _ h => h.1 _ (List.mem_of_getElem? (i := 0) rfl)
theorem nl_111 {A : Nat → Prop} {X : Nat → Nat} : ∀ s : State, zF A X s → va_Nw (.fieldLinkNest "InjectorTree" 111 "InjectorTree$Needs" "lazy" "[Z" "InjectorTree") s := fun _ h => h.1 _ (List.mem_of_getElem? (i := 1) rfl)
theorem nl_47 {A : Nat → Prop} {X : Nat → Nat} : ∀ s : State, zF A X s → va_Nw (.fieldLinkNest "InjectorTree" 47 "InjectorTree$Needs" "size" "I" "InjectorTree") s := fun _ h => h.1 _ (List.mem_of_getElem? (i := 2) rfl)
theorem nl_164 {A : Nat → Prop} {X : Nat → Nat} : ∀ s : State, zF A X s → va_Nw (.fieldLinkNest "InjectorTree" 164 "InjectorTree$Binding" "kind" "LInjectorTree$Kind;" "InjectorTree") s := fun _ h => h.1 _ (List.mem_of_getElem? (i := 3) rfl)
theorem nl_115 {A : Nat → Prop} {X : Nat → Nat} : ∀ s : State, zF A X s → va_Nw (.fieldLinkNest "InjectorTree" 115 "InjectorTree$Binding" "injector" "I" "InjectorTree") s := fun _ h => h.1 _ (List.mem_of_getElem? (i := 4) rfl)
theorem nl_121 {A : Nat → Prop} {X : Nat → Nat} : ∀ s : State, zF A X s → va_Nw (.fieldLinkNest "InjectorTree" 121 "InjectorTree$Binding" "key" "I" "InjectorTree") s := fun _ h => h.1 _ (List.mem_of_getElem? (i := 5) rfl)
theorem nl_169 {A : Nat → Prop} {X : Nat → Nat} : ∀ s : State, zF A X s → va_Nw (.fieldLinkNest "InjectorTree" 169 "InjectorTree$Binding" "constant" "I" "InjectorTree") s := fun _ h => h.1 _ (List.mem_of_getElem? (i := 6) rfl)
theorem nl_88 {A : Nat → Prop} {X : Nat → Nat} : ∀ s : State, zF A X s → va_Nw (.fieldLinkNest "InjectorTree" 88 "InjectorTree$Binding" "scope" "I" "InjectorTree") s := fun _ h => h.1 _ (List.mem_of_getElem? (i := 7) rfl)
theorem nl_108 {A : Nat → Prop} {X : Nat → Nat} : ∀ s : State, zF A X s → va_Nw (.fieldLinkNest "InjectorTree" 108 "InjectorTree$Binding" "needs" "LInjectorTree$Needs;" "InjectorTree") s := fun _ h => h.1 _ (List.mem_of_getElem? (i := 8) rfl)
theorem nl_91 {A : Nat → Prop} {X : Nat → Nat} : ∀ s : State, zF A X s → va_Nw (.fieldLinkNest "InjectorTree" 91 "InjectorTree$Binding" "kept" "I" "InjectorTree") s := fun _ h => h.1 _ (List.mem_of_getElem? (i := 9) rfl)
theorem nl_172 {A : Nat → Prop} {X : Nat → Nat} : ∀ s : State, zF A X s → va_Nw (.fieldLinkNest "InjectorTree" 172 "InjectorTree$Binding" "inWork" "Z" "InjectorTree") s := fun _ h => h.1 _ (List.mem_of_getElem? (i := 10) rfl)
theorem nl_35 {A : Nat → Prop} {X : Nat → Nat} : ∀ s : State, zF A X s → va_Nw (.methodLinkNest "InjectorTree" 35 y_N_init "InjectorTree") s := fun _ h => h.1 _ (List.mem_of_getElem? (i := 11) rfl)
theorem nl_50 {A : Nat → Prop} {X : Nat → Nat} : ∀ s : State, zF A X s → va_Nw (.methodLinkNest "InjectorTree" 50 y_N_append "InjectorTree") s := fun _ h => h.1 _ (List.mem_of_getElem? (i := 12) rfl)
theorem nl_68 {A : Nat → Prop} {X : Nat → Nat} : ∀ s : State, zF A X s → va_Nw (.methodLinkNest "InjectorTree" 68 y_B_init "InjectorTree") s := fun _ h => h.1 _ (List.mem_of_getElem? (i := 13) rfl)
end
section
section XC1
variable {l : Launch} {D : va_G} {A : Nat → Prop} {cI cZ cJ cB : ClassId} {X : Nat → Nat} {O : Nat → Prop} {bnd mkr : Nat → Option Nat} {g : Nat → Nat → Int} {σ : zh} {s : St} {kp wk : Nat → Int}
set_option maxRecDepth 100000 in
set_option maxHeartbeats 4000000 in
theorem cX_isInjector (i : Int) (hI : Inv s) (hx : xG cI cZ cJ cB X O bnd mkr g s kp wk σ) (ri : -2147483648 ≤ i ∧ i ≤ 2147483647) : zM l D vwCl A (ztys cI cZ cJ cB) (zF A X) y_X_isInjector ws_X_isInjector (zroom 0 0 0) [.ref (X 0), iv i] σ (fun r σ' => σ' = σ ∧ ∃ b : Int, r = some (iv b) ∧ ((b = 1 ∧ (0 ≤ i ∧ i < s 1 0)) ∨ (b = 0 ∧ (i < 0 ∨ s 1 0 ≤ i)))) := by
  refine zMet2 (zF_ok A X) (by decide) (Nat.le_of_ble_eq_true rfl) (fun K hKl C => ?_)
  obtain ⟨hO, hX, h1, h2, h3, h4, h5, hB, hBf, hbn, hmk, hvl, hwk, hkp, hk1, hk2, hk3⟩ := id hx
  have hinj := hI.inj
  refine z_iload_n C d_X_isInjector_0 rfl ?_
  refine z_if_lt C 16 (by omega) d_X_isInjector_1 (by decide) (fun h1 => ?_) (fun h1 => ?_)
  · refine z_iconst C d_X_isInjector_16 ?_
    exact z_zret C d_X_isInjector_17 (by decide) (by decide) (by omega) (⟨rfl, _, rfl, by omega⟩)
  · refine z_iload_n C d_X_isInjector_4 rfl ?_
    refine z_aload_n C d_X_isInjector_5 rfl ?_
    refine z_get C in_X (hX) rfl 6 (by decide) tw_fl_X_13 rfl rfl d_X_isInjector_6 ?_
    refine z_icmp_ge C 16 (by omega) (by omega) d_X_isInjector_9 (by decide) (fun h9 => ?_) (fun h9 => ?_)
    · refine z_iconst C d_X_isInjector_16 ?_
      exact z_zret C d_X_isInjector_17 (by decide) (by decide) (by omega) (⟨rfl, _, rfl, by omega⟩)
    · refine z_iconst C d_X_isInjector_12 ?_
      refine z_goto C 17 d_X_isInjector_13 (by decide) ?_
      exact z_zret C d_X_isInjector_17 (by decide) (by decide) (by omega) (⟨rfl, _, rfl, by omega⟩)
set_option maxRecDepth 100000 in
set_option maxHeartbeats 4000000 in
theorem cX_isKey (k : Int) (rk : -2147483648 ≤ k ∧ k ≤ 2147483647) : zM l D vwCl A (ztys cI cZ cJ cB) (zF A X) y_X_isKey ws_X_isKey (zroom 0 0 0) [iv k] σ (fun r σ' => σ' = σ ∧ ∃ b : Int, r = some (iv b) ∧ ((b = 1 ∧ (0 ≤ k ∧ k ≤ 11)) ∨ (b = 0 ∧ (k < 0 ∨ 11 < k)))) := by
  refine zMet2 (zF_ok A X) (by decide) (Nat.le_of_ble_eq_true rfl) (fun K hKl C => ?_)
  refine z_iload_n C d_X_isKey_0 rfl ?_
  refine z_if_lt C 14 (by omega) d_X_isKey_1 (by decide) (fun h1 => ?_) (fun h1 => ?_)
  · refine z_iconst C d_X_isKey_14 ?_
    exact z_zret C d_X_isKey_15 (by decide) (by decide) (by omega) (⟨rfl, _, rfl, by omega⟩)
  · refine z_iload_n C d_X_isKey_4 rfl ?_
    refine z_bipush C d_X_isKey_5 (by decide) ?_
    refine z_icmp_ge C 14 (by omega) (by omega) d_X_isKey_7 (by decide) (fun h7 => ?_) (fun h7 => ?_)
    · refine z_iconst C d_X_isKey_14 ?_
      exact z_zret C d_X_isKey_15 (by decide) (by decide) (by omega) (⟨rfl, _, rfl, by omega⟩)
    · refine z_iconst C d_X_isKey_10 ?_
      refine z_goto C 15 d_X_isKey_11 (by decide) ?_
      exact z_zret C d_X_isKey_15 (by decide) (by decide) (by omega) (⟨rfl, _, rfl, by omega⟩)
set_option maxRecDepth 100000 in
set_option maxHeartbeats 4000000 in
theorem cX_pairOf (i k : Int)  : zM l D vwCl A (ztys cI cZ cJ cB) (zF A X) y_X_pairOf ws_X_pairOf (zroom 0 0 0) [iv i, iv k] σ (fun r σ' => σ' = σ ∧ r = some (iv (i * 12 + k))) := by
  refine zMet2 (zF_ok A X) (by decide) (Nat.le_of_ble_eq_true rfl) (fun K hKl C => ?_)
  refine z_iload_n C d_X_pairOf_0 rfl ?_
  refine z_bipush C d_X_pairOf_1 (by decide) ?_
  refine z_imul C d_X_pairOf_3 ?_
  refine z_iload_n C d_X_pairOf_4 rfl ?_
  refine z_iadd C d_X_pairOf_5 ?_
  exact z_iret C d_X_pairOf_6 (by decide) (by decide) (⟨rfl, rfl⟩)
set_option maxRecDepth 100000 in
set_option maxHeartbeats 4000000 in
theorem cX_isPair (i k : Int) (hI : Inv s) (hx : xG cI cZ cJ cB X O bnd mkr g s kp wk σ) (ri : -2147483648 ≤ i ∧ i ≤ 2147483647) (rk : -2147483648 ≤ k ∧ k ≤ 2147483647) : zM l D vwCl A (ztys cI cZ cJ cB) (zF A X) y_X_isPair ws_X_isPair (zroom 1 0 0) [.ref (X 0), iv i, iv k] σ (fun r σ' => σ' = σ ∧ ∃ b : Int, r = some (iv b) ∧ ((b = 1 ∧ (0 ≤ i ∧ i < s 1 0 ∧ 0 ≤ k ∧ k ≤ 11)) ∨ (b = 0 ∧ (i < 0 ∨ s 1 0 ≤ i ∨ k < 0 ∨ 11 < k)))) := by
  refine zMet2 (zF_ok A X) (by decide) (Nat.le_of_ble_eq_true rfl) (fun K hKl C => ?_)
  obtain ⟨hO, hX, h1, h2, h3, h4, h5, hB, hBf, hbn, hmk, hvl, hwk, hkp, hk1, hk2, hk3⟩ := id hx
  refine z_aload_n C d_X_isPair_0 rfl ?_
  refine z_iload_n C d_X_isPair_1 rfl ?_
  refine z_callV C hKl (cX_isInjector i hI hx ri) (zgood (fun _ h => h) tw_co_X_isInjector) rfl (hX) rfl tw_ml_X_40 tw_im_X_isInjector tw_se_X_isInjector tw_in_X pd_X_isInjector (by decide) rfl (Nat.le_of_ble_eq_true rfl) (by decide) d_X_isPair_2 (fun r σ hp => ?_)
  obtain ⟨rfl, b, rfl, hb⟩ := hp
  refine z_if_eq C 19 (by omega) d_X_isPair_5 (by decide) (fun h5 => ?_) (fun h5 => ?_)
  · refine z_iconst C d_X_isPair_19 ?_
    exact z_zret C d_X_isPair_20 (by decide) (by decide) (by omega) (⟨rfl, _, rfl, by omega⟩)
  · refine z_iload_n C d_X_isPair_8 rfl ?_
    refine z_callS C hKl (cX_isKey k rk) (zgood (fun _ h => h) tw_co_X_isKey) rfl tw_ml_X_44 tw_st_X_isKey tw_in_X pd_X_isKey (by decide) rfl (Nat.le_of_ble_eq_true rfl) (by decide) d_X_isPair_9 (fun r σ hp => ?_)
    obtain ⟨rfl, b2, rfl, hb2⟩ := hp
    refine z_if_eq C 19 (by omega) d_X_isPair_12 (by decide) (fun h12 => ?_) (fun h12 => ?_)
    · refine z_iconst C d_X_isPair_19 ?_
      exact z_zret C d_X_isPair_20 (by decide) (by decide) (by omega) (⟨rfl, _, rfl, by omega⟩)
    · refine z_iconst C d_X_isPair_15 ?_
      refine z_goto C 20 d_X_isPair_16 (by decide) ?_
      exact z_zret C d_X_isPair_20 (by decide) (by decide) (by omega) (⟨rfl, _, rfl, by omega⟩)
set_option maxRecDepth 100000 in
set_option maxHeartbeats 4000000 in
theorem cX_isUnbound (i k : Int) (hI : Inv s) (hx : xG cI cZ cJ cB X O bnd mkr g s kp wk σ) (ri : -2147483648 ≤ i ∧ i ≤ 2147483647) (rk : -2147483648 ≤ k ∧ k ≤ 2147483647) : zM l D vwCl A (ztys cI cZ cJ cB) (zF A X) y_X_isUnbound ws_X_isUnbound (zroom 2 0 0) [.ref (X 0), iv i, iv k] σ (fun r σ' => σ' = σ ∧ ∃ b : Int, r = some (iv b) ∧ ((b = 1 ∧ ((0 ≤ i ∧ i < s 1 0 ∧ 0 ≤ k ∧ k ≤ 11) ∧ bnd (pr i k) = none)) ∨ (b = 0 ∧ ¬ ((0 ≤ i ∧ i < s 1 0 ∧ 0 ≤ k ∧ k ≤ 11) ∧ bnd (pr i k) = none)))) := by
  refine zMet2 (zF_ok A X) (by decide) (Nat.le_of_ble_eq_true rfl) (fun K hKl C => ?_)
  obtain ⟨hO, hX, h1, h2, h3, h4, h5, hB, hBf, hbn, hmk, hvl, hwk, hkp, hk1, hk2, hk3⟩ := id hx
  have hinj := hI.inj
  refine z_aload_n C d_X_isUnbound_0 rfl ?_
  refine z_iload_n C d_X_isUnbound_1 rfl ?_
  refine z_iload_n C d_X_isUnbound_2 rfl ?_
  refine z_callV C hKl (cX_isPair i k hI hx ri rk) (zgood (fun _ h => h) tw_co_X_isPair) rfl (hX) rfl tw_ml_X_77 tw_im_X_isPair tw_se_X_isPair tw_in_X pd_X_isPair (by decide) rfl (Nat.le_of_ble_eq_true rfl) (by decide) d_X_isUnbound_3 (fun r σ hp => ?_)
  obtain ⟨rfl, b, rfl, hb⟩ := hp
  refine z_if_eq C 26 (by omega) d_X_isUnbound_6 (by decide) (fun h6 => ?_) (fun h6 => ?_)
  · refine z_iconst C d_X_isUnbound_26 ?_
    exact z_zret C d_X_isUnbound_27 (by decide) (by decide) (by omega) (⟨rfl, 0, rfl, Or.inr ⟨rfl, fun z => by have := z.1; omega⟩⟩)
  · have hpr : ((pr i k : Nat) : Int) = 12 * i + k := by unfold pr; omega
    refine z_aload_n C d_X_isUnbound_9 rfl ?_
    refine z_get C in_X (hX) rfl 1 (by decide) tw_fl_X_19 rfl rfl d_X_isUnbound_10 ?_
    refine z_iload_n C d_X_isUnbound_13 rfl ?_
    refine z_iload_n C d_X_isUnbound_14 rfl ?_
    refine z_callS C hKl (cX_pairOf (i) (k)) (zgood (fun _ h => h) tw_co_X_pairOf) rfl tw_ml_X_58 tw_st_X_pairOf tw_in_X pd_X_pairOf (by decide) rfl (Nat.le_of_ble_eq_true rfl) (by decide) d_X_isUnbound_15 (fun r σ hp => ?_)
    obtain ⟨rfl, rfl⟩ := hp
    refine z_aald C 3 rfl h2 (pr i k) (by omega) (by omega) (by decide) d_X_isUnbound_18 ?_
    rcases hq : bnd (pr i k) with _ | a
    · refine z_ifnonnullN C d_X_isUnbound_19 ?_
      refine z_iconst C d_X_isUnbound_22 ?_
      refine z_goto C 27 d_X_isUnbound_23 (by decide) ?_
      exact z_zret C d_X_isUnbound_27 (by decide) (by decide) (by omega) (⟨rfl, 1, rfl, Or.inl ⟨rfl, by omega, rfl⟩⟩)
    · rw [show va_rf (some a) = Value.ref a from rfl]
      refine z_ifnonnull C 26 d_X_isUnbound_19 (by decide) ?_
      refine z_iconst C d_X_isUnbound_26 ?_
      exact z_zret C d_X_isUnbound_27 (by decide) (by decide) (by omega) (⟨rfl, 0, rfl, Or.inr ⟨rfl, fun z => by cases z.2⟩⟩)
set_option maxRecDepth 100000 in
set_option maxHeartbeats 4000000 in
theorem cX_makerOf (i : Int) (hI : Inv s) (hx : xG cI cZ cJ cB X O bnd mkr g s kp wk σ) (ri : -2147483648 ≤ i ∧ i ≤ 2147483647) : zM l D vwCl A (ztys cI cZ cJ cB) (zF A X) y_X_makerOf ws_X_makerOf (zroom 0 0 0) [.ref (X 0), iv i] σ (fun r σ' => σ' = σ ∧ r = some (va_rf (if i < 0 ∨ s 23 0 ≤ i then none else mkr i.toNat))) := by
  refine zMet2 (zF_ok A X) (by decide) (Nat.le_of_ble_eq_true rfl) (fun K hKl C => ?_)
  obtain ⟨hO, hX, h1, h2, h3, h4, h5, hB, hBf, hbn, hmk, hvl, hwk, hkp, hk1, hk2, hk3⟩ := id hx
  have hmd := hI.md
  refine z_iload_n C d_X_makerOf_0 rfl ?_
  refine z_if_lt C 21 (by omega) d_X_makerOf_1 (by decide) (fun h1 => ?_) (fun h1 => ?_)
  · refine z_null C d_X_makerOf_21 ?_
    exact z_aret (r := none) C d_X_makerOf_22 (by decide) (by decide) ⟨rfl, by rw [if_pos (by omega)]⟩
  · refine z_iload_n C d_X_makerOf_4 rfl ?_
    refine z_aload_n C d_X_makerOf_5 rfl ?_
    refine z_get C in_X (hX) rfl 7 (by decide) tw_fl_X_143 rfl rfl d_X_makerOf_6 ?_
    refine z_icmp_ge C 21 (by omega) (by omega) d_X_makerOf_9 (by decide) (fun h9 => ?_) (fun h9 => ?_)
    · refine z_null C d_X_makerOf_21 ?_
      exact z_aret (r := none) C d_X_makerOf_22 (by decide) (by decide) ⟨rfl, by rw [if_pos (by omega)]⟩
    · refine z_aload_n C d_X_makerOf_12 rfl ?_
      refine z_get C in_X (hX) rfl 2 (by decide) tw_fl_X_23 rfl rfl d_X_makerOf_13 ?_
      refine z_iload_n C d_X_makerOf_16 rfl ?_
      refine z_aald C 3 rfl h3 i.toNat (by omega) (by omega) (by decide) d_X_makerOf_17 ?_
      refine z_goto C 22 d_X_makerOf_18 (by decide) ?_
      exact z_aret C d_X_makerOf_22 (by decide) (by decide) (⟨rfl, by rw [if_neg (by omega)]⟩)
set_option maxRecDepth 100000 in
set_option maxHeartbeats 4000000 in
theorem cX_hasNeed {a kd nd ka la : Nat} {inj key con sc kept iw sz : Int} (n : Int) (ha : σ a = some (ob 0 [.ref kd, iv inj, iv key, iv con, iv sc, .ref nd, iv kept, iv iw])) (hn : σ nd = some (ob 1 [.ref ka, .ref la, iv sz])) (hsz : 0 ≤ sz ∧ sz ≤ 4) (rn : -2147483648 ≤ n ∧ n ≤ 2147483647) : zM l D vwCl A (ztys cI cZ cJ cB) (zF A X) y_X_hasNeed ws_X_hasNeed (zroom 0 0 0) [.ref a, iv n] σ (fun r σ' => σ' = σ ∧ ∃ b : Int, r = some (iv b) ∧ ((b = 1 ∧ (0 ≤ n ∧ n < sz)) ∨ (b = 0 ∧ (n < 0 ∨ sz ≤ n)))) := by
  refine zMet2 (zF_ok A X) (by decide) (Nat.le_of_ble_eq_true rfl) (fun K hKl C => ?_)
  refine z_iload_n C d_X_hasNeed_0 rfl ?_
  refine z_if_lt C 19 (by omega) d_X_hasNeed_1 (by decide) (fun h1 => ?_) (fun h1 => ?_)
  · refine z_iconst C d_X_hasNeed_19 ?_
    exact z_zret C d_X_hasNeed_20 (by decide) (by decide) (by omega) (⟨rfl, _, rfl, by omega⟩)
  · refine z_iload_n C d_X_hasNeed_4 rfl ?_
    refine z_aload_n C d_X_hasNeed_5 rfl ?_
    refine z_getN C in_B (ha) rfl 5 (by decide) nl_108 rfl rfl d_X_hasNeed_6 ?_
    refine z_getN C in_N (hn) rfl 2 (by decide) nl_47 rfl rfl d_X_hasNeed_9 ?_
    refine z_icmp_ge C 19 (by omega) (by omega) d_X_hasNeed_12 (by decide) (fun h12 => ?_) (fun h12 => ?_)
    · refine z_iconst C d_X_hasNeed_19 ?_
      exact z_zret C d_X_hasNeed_20 (by decide) (by decide) (by omega) (⟨rfl, _, rfl, by omega⟩)
    · refine z_iconst C d_X_hasNeed_15 ?_
      refine z_goto C 20 d_X_hasNeed_16 (by decide) ?_
      exact z_zret C d_X_hasNeed_20 (by decide) (by decide) (by omega) (⟨rfl, _, rfl, by omega⟩)
set_option maxRecDepth 100000 in
set_option maxHeartbeats 4000000 in
theorem cX_seenFrom (i k : Nat) (hI : Inv s) (hx : xG cI cZ cJ cB X O bnd mkr g s kp wk σ) (hi : i < 3) (hk : k < 12) : zM l D vwCl A (ztys cI cZ cJ cB) (zF A X) y_X_seenFrom ws_X_seenFrom (zroom 1 0 0) [.ref (X 0), iv (i : Int), iv (k : Int)] σ (fun r σ' => σ' = σ ∧ r = some (va_rf (if sn s i k < 0 then none else bnd (sn s i k).toNat))) := by
  refine zMet2 (zF_ok A X) (by decide) (Nat.le_of_ble_eq_true rfl) (fun K hKl C => ?_)
  obtain ⟨hO, hX, h1, h2, h3, h4, h5, hB, hBf, hbn, hmk, hvl, hwk, hkp, hk1, hk2, hk3⟩ := id hx
  have loop : ∀ (n st : Nat) (x : Int), st + n = 3 → -1 ≤ x → x < 3 → x < n → ∀ a5 : Option Value, zJ K D vwCl A 6 (zQ K D vwCl A (fun r σ' => σ' = σ ∧ r = some (va_rf (if snf s k n x < 0 then none else bnd (snf s k n x).toNat))) 0 0) 0 0 σ 5 [some (.ref (X 0)), some (iv (i : Int)), some (iv (k : Int)), some (iv x), some (iv (st : Int)), a5] [] := by
    intro n
    induction n with
    | zero =>
      intro st x h0 hx1 hx2 hx3 a5
      refine z_iload C d_X_seenFrom_5 rfl ?_
      refine z_iconst C d_X_seenFrom_7 ?_
      refine z_icmp_ge C 49 (by omega) (by omega) d_X_seenFrom_8 (by decide) (fun h8 => ?_) (fun h8 => absurd h8 (by omega))
      refine z_null C d_X_seenFrom_49 ?_
      exact z_aret (r := none) C d_X_seenFrom_50 (by decide) (by decide) ⟨rfl, rfl⟩
    | succ n ih =>
      intro st x h0 hx1 hx2 hx3 a5
      have es : snf s k (n + 1) x = if x < 0 then -1 else if s 5 (12 * x.toNat + k) ≠ 0 then 12 * x + k else snf s k n (s 0 x.toNat) := rfl
      refine z_iload C d_X_seenFrom_5 rfl ?_
      refine z_iconst C d_X_seenFrom_7 ?_
      refine z_icmp_ge C 49 (by omega) (by omega) d_X_seenFrom_8 (by decide) (fun h8 => absurd h8 (by omega)) (fun h8 => ?_)
      refine z_iload_n C d_X_seenFrom_11 rfl ?_
      refine z_iconst C d_X_seenFrom_12 ?_
      refine z_icmp_eq C 49 (by omega) (by omega) d_X_seenFrom_13 (by decide) (fun h13 => ?_) (fun h13 => ?_)
      · refine z_null C d_X_seenFrom_49 ?_
        exact z_aret (r := none) C d_X_seenFrom_50 (by decide) (by decide) ⟨rfl, by rw [es, if_pos (by omega)]⟩
      · refine z_aload_n C d_X_seenFrom_16 rfl ?_
        refine z_get C in_X (hX) rfl 1 (by decide) tw_fl_X_19 rfl rfl d_X_seenFrom_17 ?_
        refine z_iload_n C d_X_seenFrom_20 rfl ?_
        refine z_iload_n C d_X_seenFrom_21 rfl ?_
        refine z_callS C hKl (cX_pairOf (x) ((k : Int))) (zgood (fun _ h => h) tw_co_X_pairOf) rfl tw_ml_X_58 tw_st_X_pairOf tw_in_X pd_X_pairOf (by decide) rfl (Nat.le_of_ble_eq_true rfl) (by decide) d_X_seenFrom_22 (fun r σ hp => ?_)
        obtain ⟨rfl, rfl⟩ := hp
        refine z_aald C 3 rfl h2 (12 * x.toNat + k) (by omega) (by omega) (by decide) d_X_seenFrom_25 ?_
        rcases hq : bnd (12 * x.toNat + k) with _ | a
        · rw [show va_rf none = Value.null from rfl]
          have h0 : s 5 (12 * x.toNat + k) = 0 := by
            rcases hbn (12 * x.toNat + k) (by omega) with z | ⟨a, kd, con, sc, sz, kf, zf, z, -⟩
            · exact z.2
            · rw [hq] at z; cases z
          refine z_astoreN C d_X_seenFrom_26 (by decide) ?_
          refine z_aloadN C d_X_seenFrom_28 rfl ?_
          refine z_ifnullN C 36 d_X_seenFrom_30 (by decide) ?_
          refine z_aload_n C d_X_seenFrom_36 rfl ?_
          refine z_get C in_X (hX) rfl 0 (by decide) tw_fl_X_9 rfl rfl d_X_seenFrom_37 ?_
          refine z_iload_n C d_X_seenFrom_40 rfl ?_
          refine z_iald C 0 rfl h1 x.toNat (by omega) (by omega) (by decide) d_X_seenFrom_41 ?_
          refine z_istore_n C d_X_seenFrom_42 (by decide) ?_
          refine z_iinc C d_X_seenFrom_43 rfl (by decide) ?_
          refine z_goto C 5 d_X_seenFrom_46 (by decide) ?_
          have hp := hI.par.at (i := x.toNat) (by omega)
          have e2 : snf s k (n + 1) x = snf s k n (s 0 x.toNat) := by rw [es, if_neg (by omega), if_neg (by omega)]
          rw [e2]
          have j := ih (st + 1) (s 0 x.toNat) (by omega) (by omega) (by omega) (by omega) (some .null)
          rw [show ((st + 1 : Nat) : Int) = (st : Int) + 1 from by omega] at j
          exact j
        · rw [show va_rf (some a) = Value.ref a from rfl]
          have h0 : s 5 (12 * x.toNat + k) ≠ 0 := by
            rcases hbn (12 * x.toNat + k) (by omega) with z | ⟨a, kd, con, sc, sz, kf, zf, -, -, z⟩
            · rw [hq] at z; cases z.1
            · rcases z with z | z | z <;> (have := z.1; omega)
          refine z_astore C d_X_seenFrom_26 (by decide) ?_
          refine z_aload C d_X_seenFrom_28 rfl ?_
          refine z_ifnull C d_X_seenFrom_30 ?_
          refine z_aload C d_X_seenFrom_33 rfl ?_
          exact z_aret (r := some a) C d_X_seenFrom_35 (by decide) (by decide) ⟨rfl, by rw [es, if_neg (by omega), if_pos h0, if_neg (by omega), show (12 * x + (k : Int)).toNat = 12 * x.toNat + k from by omega, hq]⟩
  refine z_iload_n C d_X_seenFrom_0 rfl ?_
  refine z_istore_n C d_X_seenFrom_1 (by decide) ?_
  refine z_iconst C d_X_seenFrom_2 ?_
  refine z_istore C d_X_seenFrom_3 (by decide) ?_
  exact loop 3 0 (i : Int) (by omega) (by omega) (by omega) (by omega) none
set_option maxRecDepth 100000 in
set_option maxHeartbeats 4000000 in
theorem cX_isError (v : Int) (rv : -9223372036854775808 ≤ v ∧ v ≤ 9223372036854775807) : zM l D vwCl A (ztys cI cZ cJ cB) (zF A X) y_X_isError ws_X_isError (zroom 0 0 0) [jv v] σ (fun r σ' => σ' = σ ∧ ∃ b : Int, r = some (iv b) ∧ ((b = 1 ∧ v < 0) ∨ (b = 0 ∧ 0 ≤ v))) := by
  refine zMet2 (zF_ok A X) (by decide) (Nat.le_of_ble_eq_true rfl) (fun K hKl C => ?_)
  refine z_lload_n C d_X_isError_0 rfl ?_
  refine z_lconst C 0 d_X_isError_1 rfl ?_
  refine z_lcmp C (by omega) (by omega) d_X_isError_2 (fun v2 hv2 => ?_)
  refine z_if_ge C 10 (by omega) d_X_isError_3 (by decide) (fun h3 => ?_) (fun h3 => ?_)
  · refine z_iconst C d_X_isError_10 ?_
    exact z_zret C d_X_isError_11 (by decide) (by decide) (by omega) (⟨rfl, _, rfl, by omega⟩)
  · refine z_iconst C d_X_isError_6 ?_
    refine z_goto C 11 d_X_isError_7 (by decide) ?_
    exact z_zret C d_X_isError_11 (by decide) (by decide) (by omega) (⟨rfl, _, rfl, by omega⟩)
set_option maxRecDepth 100000 in
set_option maxHeartbeats 4000000 in
theorem cX_handleOf (i k : Int) (hi : 0 ≤ i ∧ i ≤ 2) (hk : 0 ≤ k ∧ k ≤ 11) : zM l D vwCl A (ztys cI cZ cJ cB) (zF A X) y_X_handleOf ws_X_handleOf (zroom 0 0 0) [iv i, iv k] σ (fun r σ' => σ' = σ ∧ r = some (jv (20000000000 + 16 * i + k))) := by
  refine zMet2 (zF_ok A X) (by decide) (Nat.le_of_ble_eq_true rfl) (fun K hKl C => ?_)
  refine z_ldc2 C 20000000000 tw_kl_X_198 d_X_handleOf_0 ?_
  refine z_bipush C d_X_handleOf_3 (by decide) ?_
  refine z_iload_n C d_X_handleOf_5 rfl ?_
  refine z_imul C d_X_handleOf_6 ?_
  refine z_i2l C (by omega) d_X_handleOf_7 ?_
  refine z_ladd C d_X_handleOf_8 ?_
  refine z_iload_n C d_X_handleOf_9 rfl ?_
  refine z_i2l C (by omega) d_X_handleOf_10 ?_
  refine z_ladd C d_X_handleOf_11 ?_
  exact z_lret C d_X_handleOf_12 (by decide) (by decide) (⟨rfl, rfl⟩)
end XC1
end
section
section XC2
variable {l : Launch} {D : va_G} {A : Nat → Prop} {cI cZ cJ cB : ClassId} {X : Nat → Nat} {O : Nat → Prop} {bnd mkr : Nat → Option Nat} {g : Nat → Nat → Int} {σ : zh} {s : St} {kp wk : Nat → Int}
theorem xsee (hI : Inv s) (hx : xG cI cZ cJ cB X O bnd mkr g s kp wk σ) {i k : Nat} (hi : i < 3) (hk : k < 12) (hs : ¬ sn s i k < 0) : ∃ (p a kd nd ka la : Nat) (con sc sz : Int) (kf zf : Nat → Int), p < 36 ∧ p % 12 = k ∧ sn s i k = (p : Int) ∧ bnd p = some a ∧ O a ∧ σ a = some (ob 0 [.ref kd, iv ((p / 12 : Nat) : Int), iv ((p % 12 : Nat) : Int), iv con, iv sc, .ref nd, iv (kp p), iv (wk p)]) ∧ NDk cI cZ O σ nd ka la sz kf zf ∧ NBd X nd ka la ∧ BK X s p kd con sc sz kf zf := by
  obtain ⟨p, hp, e, h0, hm⟩ := hI.seen hi hk hs
  rcases hx.2.2.2.2.2.2.2.2.2.1 p hp with z | ⟨a, kd, con, sc, sz, kf, zf, z1, ⟨z2, nd, ka, la, z3, z4, z5⟩, z6⟩
  · exact absurd z.2 h0
  · exact ⟨p, a, kd, nd, ka, la, con, sc, sz, kf, zf, hp, hm, e, z1, z2, z3, z4, z5, z6⟩
set_option maxRecDepth 100000 in
set_option maxHeartbeats 4000000 in
theorem cX_countBindings  (hx : xG cI cZ cJ cB X O bnd mkr g s kp wk σ)  : zM l D vwCl A (ztys cI cZ cJ cB) (zF A X) y_X_countBindings ws_X_countBindings (zroom 0 0 0) [.ref (X 0)] σ (fun r σ' => σ' = σ ∧ r = some (iv (cntz (s 5) 36))) := by
  refine zMet2 (zF_ok A X) (by decide) (Nat.le_of_ble_eq_true rfl) (fun K hKl C => ?_)
  obtain ⟨hO, hX, h1, h2, h3, h4, h5, hB, hBf, hbn, hmk, hvl, hwk, hkp, hk1, hk2, hk3⟩ := id hx
  have loop : ∀ (n q : Nat), q + n = 36 → ∀ a5 : Option Value, zJ K D vwCl A 6 (zQ K D vwCl A (fun r σ' => σ' = σ ∧ r = some (iv (cntz (s 5) 36))) 0 0) 0 0 σ 13 [some (.ref (X 0)), some (iv (cntz (s 5) q)), some (.ref (X 2)), some (iv 36), some (iv (q : Int)), a5] [] := by
    intro n
    induction n with
    | zero =>
      intro q hq a5
      have e : q = 36 := by omega
      subst e
      refine z_iload C d_X_countBindings_13 rfl ?_
      refine z_iload_n C d_X_countBindings_15 rfl ?_
      refine z_icmp_ge C 39 (by omega) (by omega) d_X_countBindings_16 (by decide) (fun h16 => ?_) (fun h16 => absurd h16 (by omega))
      refine z_iload_n C d_X_countBindings_39 rfl ?_
      exact z_iret C d_X_countBindings_40 (by decide) (by decide) (⟨rfl, rfl⟩)
    | succ n ih =>
      intro q hq a5
      have hc := cntz_r (s 5) q
      refine z_iload C d_X_countBindings_13 rfl ?_
      refine z_iload_n C d_X_countBindings_15 rfl ?_
      refine z_icmp_ge C 39 (by omega) (by omega) d_X_countBindings_16 (by decide) (fun h16 => absurd h16 (by omega)) (fun h16 => ?_)
      refine z_aload_n C d_X_countBindings_19 rfl ?_
      refine z_iload C d_X_countBindings_20 rfl ?_
      refine z_aald C 3 rfl h2 q rfl (by omega) (by decide) d_X_countBindings_22 ?_
      rcases hq : bnd q with _ | a
      · rw [show va_rf none = Value.null from rfl]
        have h0 : s 5 q = 0 := by
          rcases hbn q (by omega) with z | ⟨a, kd, con, sc, sz, kf, zf, z, -⟩
          · exact z.2
          · rw [hq] at z; cases z
        refine z_astoreN C d_X_countBindings_23 (by decide) ?_
        refine z_aloadN C d_X_countBindings_25 rfl ?_
        refine z_ifnullN C 33 d_X_countBindings_27 (by decide) ?_
        refine z_iinc C d_X_countBindings_33 rfl (by decide) ?_
        refine z_goto C 13 d_X_countBindings_36 (by decide) ?_
        have j := ih (q + 1) (by omega) (some .null)
        rw [show cntz (s 5) (q + 1) = cntz (s 5) q + (if s 5 q = 0 then 0 else 1) from rfl, if_pos h0, Int.add_zero, show ((q + 1 : Nat) : Int) = (q : Int) + 1 from by omega] at j
        exact j
      · rw [show va_rf (some a) = Value.ref a from rfl]
        have h0 : s 5 q ≠ 0 := by
          rcases hbn q (by omega) with z | ⟨a, kd, con, sc, sz, kf, zf, -, -, z⟩
          · rw [hq] at z; cases z.1
          · rcases z with z | z | z <;> (have := z.1; omega)
        refine z_astore C d_X_countBindings_23 (by decide) ?_
        refine z_aload C d_X_countBindings_25 rfl ?_
        refine z_ifnull C d_X_countBindings_27 ?_
        refine z_iinc C d_X_countBindings_30 rfl (by decide) ?_
        refine z_iinc C d_X_countBindings_33 rfl (by decide) ?_
        refine z_goto C 13 d_X_countBindings_36 (by decide) ?_
        have j := ih (q + 1) (by omega) (some (.ref a))
        rw [show cntz (s 5) (q + 1) = cntz (s 5) q + (if s 5 q = 0 then 0 else 1) from rfl, if_neg h0, show ((q + 1 : Nat) : Int) = (q : Int) + 1 from by omega] at j
        exact j
  refine z_iconst C d_X_countBindings_0 ?_
  refine z_istore_n C d_X_countBindings_1 (by decide) ?_
  refine z_aload_n C d_X_countBindings_2 rfl ?_
  refine z_get C in_X (hX) rfl 1 (by decide) tw_fl_X_19 rfl rfl d_X_countBindings_3 ?_
  refine z_astore_n C d_X_countBindings_6 (by decide) ?_
  refine z_aload_n C d_X_countBindings_7 rfl ?_
  refine z_alen C 3 rfl h2 36 rfl d_X_countBindings_8 ?_
  refine z_istore_n C d_X_countBindings_9 (by decide) ?_
  refine z_iconst C d_X_countBindings_10 ?_
  refine z_istore C d_X_countBindings_11 (by decide) ?_
  exact loop 36 0 (by omega) none
set_option maxRecDepth 100000 in
set_option maxHeartbeats 4000000 in
theorem cX_countKept (w : Int) (f : Nat) (hw : (w = 1 ∧ f = 11) ∨ (w = 2 ∧ f = 12)) (hI : Inv s) (hx : xG cI cZ cJ cB X O bnd mkr g s (fun p => kpt s p - 1) wk σ) : zM l D vwCl A (ztys cI cZ cJ cB) (zF A X) y_X_countKept ws_X_countKept (zroom 0 0 0) [.ref (X 0), iv w] σ (fun r σ' => σ' = σ ∧ r = some (iv (cntz (s f) 36))) := by
  refine zMet2 (zF_ok A X) (by decide) (Nat.le_of_ble_eq_true rfl) (fun K hKl C => ?_)
  obtain ⟨hO, hX, h1, h2, h3, h4, h5, hB, hBf, hbn, hmk, hvl, hwk, hkp, hk1, hk2, hk3⟩ := id hx
  have loop : ∀ (n q : Nat), q + n = 36 → ∀ a6 : Option Value, zJ K D vwCl A 7 (zQ K D vwCl A (fun r σ' => σ' = σ ∧ r = some (iv (cntz (s f) 36))) 0 0) 0 0 σ 14 [some (.ref (X 0)), some (iv w), some (iv (cntz (s f) q)), some (.ref (X 2)), some (iv 36), some (iv (q : Int)), a6] [] := by
    intro n
    induction n with
    | zero =>
      intro q hq a6
      have e : q = 36 := by omega
      subst e
      refine z_iload C d_X_countKept_14 rfl ?_
      refine z_iload C d_X_countKept_16 rfl ?_
      refine z_icmp_ge C 59 (by omega) (by omega) d_X_countKept_18 (by decide) (fun h18 => ?_) (fun h18 => absurd h18 (by omega))
      refine z_iload_n C d_X_countKept_59 rfl ?_
      exact z_iret C d_X_countKept_60 (by decide) (by decide) (⟨rfl, rfl⟩)
    | succ n ih =>
      intro q hq a6
      have hc := cntz_r (s f) q
      refine z_iload C d_X_countKept_14 rfl ?_
      refine z_iload C d_X_countKept_16 rfl ?_
      refine z_icmp_ge C 59 (by omega) (by omega) d_X_countKept_18 (by decide) (fun h18 => absurd h18 (by omega)) (fun h18 => ?_)
      refine z_aload_n C d_X_countKept_21 rfl ?_
      refine z_iload C d_X_countKept_22 rfl ?_
      refine z_aald C 3 rfl h2 q rfl (by omega) (by decide) d_X_countKept_24 ?_
      rcases hq : bnd q with _ | a
      · rw [show va_rf none = Value.null from rfl]
        have h0 : s f q = 0 := by
          rcases hbn q (by omega) with z | ⟨a, kd, con, sc, sz, kf, zf, z, -⟩
          · have h11 := hI.si2 (p := q)
            have h12 := hI.re2 (p := q)
            have z2 := z.2
            rcases hw with ⟨rfl, rfl⟩ | ⟨rfl, rfl⟩
            · apply Classical.byContradiction
              intro h; have := (h11 h).1; omega
            · apply Classical.byContradiction
              intro h; have := (h12 h).1; omega
          · rw [hq] at z; cases z
        refine z_astoreN C d_X_countKept_25 (by decide) ?_
        refine z_aloadN C d_X_countKept_27 rfl ?_
        refine z_ifnullN C 53 d_X_countKept_29 (by decide) ?_
        refine z_iinc C d_X_countKept_53 rfl (by decide) ?_
        refine z_goto C 14 d_X_countKept_56 (by decide) ?_
        have j := ih (q + 1) (by omega) (some .null)
        rw [show cntz (s f) (q + 1) = cntz (s f) q + (if s f q = 0 then 0 else 1) from rfl, if_pos h0, Int.add_zero, show ((q + 1 : Nat) : Int) = (q : Int) + 1 from by omega] at j
        exact j
      · rw [show va_rf (some a) = Value.ref a from rfl]
        rcases hbn q (by omega) with z | ⟨a', kd, con, sc, sz, kf, zf, z1, ⟨z2, nd, ka, la, z3, -⟩, z4⟩
        · rw [hq] at z; cases z.1
        rw [hq] at z1
        cases z1
        have hkq := hkp q
        have key : (0 ≤ sc ∧ sc ≤ 2) ∧ ((sc = w ∧ kpt s q - 1 ≠ -1) ↔ s f q ≠ 0) := by
          have g1 := hI.si q
          have g2 := hI.re q
          have g3 := hI.sc q
          have h11 : s 11 q ≠ 0 → s 5 q = 3 ∧ s 7 q = 1 := hI.si2 (p := q)
          have h12 : s 12 q ≠ 0 → s 5 q = 3 ∧ s 7 q = 2 := fun h => ⟨(hI.re2 h).1, (hI.re2 h).2.1⟩
          have z5 : sc = (if s 5 q = 3 then s 7 q else 0) := by
            rcases z4 with z | z | z
            · rw [if_neg (by have := z.1; omega)]; exact z.2.2.2.1
            · rw [if_neg (by have := z.1; omega)]; exact z.2.2.1
            · rw [if_pos z.1]; exact z.2.2.1
          unfold kpt
          rcases hw with ⟨rfl, rfl⟩ | ⟨rfl, rfl⟩
          · split at z5 <;> omega
          · split at z5 <;> omega
        refine z_astore C d_X_countKept_25 (by decide) ?_
        refine z_aload C d_X_countKept_27 rfl ?_
        refine z_ifnull C d_X_countKept_29 ?_
        refine z_aload C d_X_countKept_32 rfl ?_
        refine z_getN C in_B (z3) rfl 4 (by decide) nl_88 rfl rfl d_X_countKept_34 ?_
        refine z_iload_n C d_X_countKept_37 rfl ?_
        refine z_icmp_ne C 53 (by omega) (by omega) d_X_countKept_38 (by decide) (fun h38 => ?_) (fun h38 => ?_)
        · refine z_iinc C d_X_countKept_53 rfl (by decide) ?_
          refine z_goto C 14 d_X_countKept_56 (by decide) ?_
          have j := ih (q + 1) (by omega) (some (.ref a))
          rw [show cntz (s f) (q + 1) = cntz (s f) q + (if s f q = 0 then 0 else 1) from rfl, if_pos (by omega), Int.add_zero, show ((q + 1 : Nat) : Int) = (q : Int) + 1 from by omega] at j
          exact j
        · refine z_aload C d_X_countKept_41 rfl ?_
          refine z_getN C in_B (z3) rfl 6 (by decide) nl_91 rfl rfl d_X_countKept_43 ?_
          refine z_iconst C d_X_countKept_46 ?_
          refine z_icmp_eq C 53 (by omega) (by omega) d_X_countKept_47 (by decide) (fun h47 => ?_) (fun h47 => ?_)
          · refine z_iinc C d_X_countKept_53 rfl (by decide) ?_
            refine z_goto C 14 d_X_countKept_56 (by decide) ?_
            have h47 : kpt s q - 1 = -1 := h47
            have j := ih (q + 1) (by omega) (some (.ref a))
            rw [show cntz (s f) (q + 1) = cntz (s f) q + (if s f q = 0 then 0 else 1) from rfl, if_pos (by omega), Int.add_zero, show ((q + 1 : Nat) : Int) = (q : Int) + 1 from by omega] at j
            exact j
          · refine z_iinc C d_X_countKept_50 rfl (by decide) ?_
            refine z_iinc C d_X_countKept_53 rfl (by decide) ?_
            refine z_goto C 14 d_X_countKept_56 (by decide) ?_
            have h47 : kpt s q - 1 ≠ -1 := h47
            have j := ih (q + 1) (by omega) (some (.ref a))
            rw [show cntz (s f) (q + 1) = cntz (s f) q + (if s f q = 0 then 0 else 1) from rfl, if_neg (by omega), show ((q + 1 : Nat) : Int) = (q : Int) + 1 from by omega] at j
            exact j
  refine z_iconst C d_X_countKept_0 ?_
  refine z_istore_n C d_X_countKept_1 (by decide) ?_
  refine z_aload_n C d_X_countKept_2 rfl ?_
  refine z_get C in_X (hX) rfl 1 (by decide) tw_fl_X_19 rfl rfl d_X_countKept_3 ?_
  refine z_astore_n C d_X_countKept_6 (by decide) ?_
  refine z_aload_n C d_X_countKept_7 rfl ?_
  refine z_alen C 3 rfl h2 36 rfl d_X_countKept_8 ?_
  refine z_istore C d_X_countKept_9 (by decide) ?_
  refine z_iconst C d_X_countKept_11 ?_
  refine z_istore C d_X_countKept_12 (by decide) ?_
  exact loop 36 0 (by omega) none
set_option maxRecDepth 100000 in
set_option maxHeartbeats 4000000 in
theorem cX_home (i k : Int) (hI : Inv s) (hx : xG cI cZ cJ cB X O bnd mkr g s kp wk σ) (ri : -2147483648 ≤ i ∧ i ≤ 2147483647) (rk : -2147483648 ≤ k ∧ k ≤ 2147483647) : zM l D vwCl A (ztys cI cZ cJ cB) (zF A X) y_X_home ws_X_home (zroom 2 0 0) [.ref (X 0), iv i, iv k] σ (fun r σ' => σ' = σ ∧ r = some (iv (sp_home s i k))) := by
  refine zMet2 (zF_ok A X) (by decide) (Nat.le_of_ble_eq_true rfl) (fun K hKl C => ?_)
  obtain ⟨hO, hX, h1, h2, h3, h4, h5, hB, hBf, hbn, hmk, hvl, hwk, hkp, hk1, hk2, hk3⟩ := id hx
  have hinj := hI.inj
  refine z_aload_n C d_X_home_0 rfl ?_
  refine z_iload_n C d_X_home_1 rfl ?_
  refine z_iload_n C d_X_home_2 rfl ?_
  refine z_callV C hKl (cX_isPair i k hI hx ri rk) (zgood (fun _ h => h) tw_co_X_isPair) rfl (hX) rfl tw_ml_X_77 tw_im_X_isPair tw_se_X_isPair tw_in_X pd_X_isPair (by decide) rfl (Nat.le_of_ble_eq_true rfl) (by decide) d_X_home_3 (fun r σ hp => ?_)
  obtain ⟨rfl, b, rfl, hb⟩ := hp
  refine z_if_ne C 11 (by omega) d_X_home_6 (by decide) (fun h6 => ?_) (fun h6 => ?_)
  · obtain ⟨x, rfl⟩ := Int.eq_ofNat_of_zero_le (show 0 ≤ i by omega)
    obtain ⟨y, rfl⟩ := Int.eq_ofNat_of_zero_le (show 0 ≤ k by omega)
    have e1 : sp_home s x y = if sn s x y < 0 then 3 else sn s x y / 12 := if_neg (by omega)
    refine z_aload_n C d_X_home_11 rfl ?_
    refine z_iload_n C d_X_home_12 rfl ?_
    refine z_iload_n C d_X_home_13 rfl ?_
    refine z_callV C hKl (cX_seenFrom x y hI hx (by omega) (by omega)) (zgood (fun _ h => h) tw_co_X_seenFrom) rfl (hX) rfl tw_ml_X_124 tw_im_X_seenFrom tw_se_X_seenFrom tw_in_X pd_X_seenFrom (by decide) rfl (Nat.le_of_ble_eq_true rfl) (by decide) d_X_home_14 (fun r σ hp => ?_)
    obtain ⟨rfl, rfl⟩ := hp
    by_cases hsn : sn s x y < 0
    · rw [if_pos hsn]
      rw [show va_rf none = Value.null from rfl]
      refine z_astore_nN C d_X_home_17 (by decide) ?_
      refine z_aload_nN C d_X_home_18 rfl ?_
      refine z_ifnonnullN C d_X_home_19 ?_
      refine z_iconst C d_X_home_22 ?_
      refine z_goto C 30 d_X_home_23 (by decide) ?_
      exact z_iret C d_X_home_30 (by decide) (by decide) (⟨rfl, by rw [e1, if_pos hsn]⟩)
    · obtain ⟨p, a, kd, nd, ka, la, con, sc, sz, kf, zf, hp36, -, ep, hbp, -, ha, -⟩ := xsee hI hx (i := x) (k := y) (by omega) (by omega) hsn
      rw [if_neg hsn, ep, Int.toNat_natCast, hbp, show va_rf (some a) = Value.ref a from rfl]
      refine z_astore_n C d_X_home_17 (by decide) ?_
      refine z_aload_n C d_X_home_18 rfl ?_
      refine z_ifnonnull C 26 d_X_home_19 (by decide) ?_
      refine z_aload_n C d_X_home_26 rfl ?_
      refine z_getN C in_B (ha) rfl 1 (by decide) nl_115 rfl rfl d_X_home_27 ?_
      exact z_iret C d_X_home_30 (by decide) (by decide) (⟨rfl, by rw [e1, if_neg hsn, ep, show ((p : Nat) : Int) / 12 = ((p / 12 : Nat) : Int) from by omega]⟩)
  · refine z_iconst C d_X_home_9 ?_
    exact z_iret C d_X_home_10 (by decide) (by decide) (by rw [show sp_home s i k = -1 from if_pos (by omega)]; exact ⟨rfl, rfl⟩)
set_option maxRecDepth 100000 in
set_option maxHeartbeats 4000000 in
theorem cX_held (i n : Int) (hI : Inv s) (hx : xG cI cZ cJ cB X O bnd mkr g s kp wk σ) (ri : -2147483648 ≤ i ∧ i ≤ 2147483647) (rn : -2147483648 ≤ n ∧ n ≤ 2147483647) : zM l D vwCl A (ztys cI cZ cJ cB) (zF A X) y_X_held ws_X_held (zroom 1 0 0) [.ref (X 0), iv i, iv n] σ (fun r σ' => σ' = σ ∧ r = some (jv (sp_held s i n))) := by
  refine zMet2 (zF_ok A X) (by decide) (Nat.le_of_ble_eq_true rfl) (fun K hKl C => ?_)
  obtain ⟨hO, hX, h1, h2, h3, h4, h5, hB, hBf, hbn, hmk, hvl, hwk, hkp, hk1, hk2, hk3⟩ := id hx
  have hmd := hI.md
  refine z_aload_n C d_X_held_0 rfl ?_
  refine z_iload_n C d_X_held_1 rfl ?_
  refine z_callV C hKl (cX_makerOf i hI hx ri) (zgood (fun _ h => h) tw_co_X_makerOf) rfl (hX) rfl tw_ml_X_100 tw_im_X_makerOf tw_se_X_makerOf tw_in_X pd_X_makerOf (by decide) rfl (Nat.le_of_ble_eq_true rfl) (by decide) d_X_held_2 (fun r σ hp => ?_)
  obtain ⟨rfl, rfl⟩ := hp
  by_cases hbad : i < 0 ∨ s 23 0 ≤ i
  · rw [if_pos hbad, show va_rf none = Value.null from rfl]
    refine z_astore_nN C d_X_held_5 (by decide) ?_
    refine z_aload_nN C d_X_held_6 rfl ?_
    refine z_ifnullN C 18 d_X_held_7 (by decide) ?_
    refine z_ldc2 C (-1) tw_kl_X_94 d_X_held_18 ?_
    exact z_lret C d_X_held_21 (by decide) (by decide) (by rw [show sp_held s i n = -1 from if_pos (by omega)]; exact ⟨rfl, rfl⟩)
  · obtain ⟨x, rfl⟩ := Int.eq_ofNat_of_zero_le (show 0 ≤ i by omega)
    obtain ⟨a, kd, con, kept, iw, kf, zf, m1, ⟨m2, nd, ka, la, m3, m4, m5⟩, m6⟩ := hmk x (by omega)
    obtain ⟨-, n1, n2, n3, n4, n5, n6⟩ := m4
    rw [if_neg hbad, Int.toNat_natCast, m1, show va_rf (some a) = Value.ref a from rfl]
    have hin := hI.inn x
    refine z_astore_n C d_X_held_5 (by decide) ?_
    refine z_aload_n C d_X_held_6 rfl ?_
    refine z_ifnull C d_X_held_7 ?_
    refine z_aload_n C d_X_held_10 rfl ?_
    refine z_iload_n C d_X_held_11 rfl ?_
    refine z_callS C hKl (cX_hasNeed n m3 n1 n4 rn) (zgood (fun _ h => h) tw_co_X_hasNeed) rfl tw_ml_X_104 tw_st_X_hasNeed tw_in_X pd_X_hasNeed (by decide) rfl (Nat.le_of_ble_eq_true rfl) (by decide) d_X_held_12 (fun r σ hp => ?_)
    obtain ⟨rfl, b, rfl, hb⟩ := hp
    refine z_if_ne C 22 (by omega) d_X_held_15 (by decide) (fun h15 => ?_) (fun h15 => ?_)
    · refine z_aload_n C d_X_held_22 rfl ?_
      refine z_get C in_X (hX) rfl 3 (by decide) tw_fl_X_26 rfl rfl d_X_held_23 ?_
      refine z_iload_n C d_X_held_26 rfl ?_
      refine z_iconst C d_X_held_27 ?_
      refine z_imul C d_X_held_28 ?_
      refine z_iload_n C d_X_held_29 rfl ?_
      refine z_iadd C d_X_held_30 ?_
      refine z_lald C 2 rfl h4 (4 * x + n.toNat) (by omega) (by omega) (by decide) d_X_held_31 ?_
      exact z_lret C d_X_held_32 (by decide) (by decide) (by rw [show sp_held s x n = s 22 (4 * x + n.toNat) from by unfold sp_held; rw [Int.toNat_natCast, if_neg (by omega)], hvl x n.toNat (by omega) (by omega)]; exact ⟨rfl, rfl⟩)
    · refine z_ldc2 C (-1) tw_kl_X_94 d_X_held_18 ?_
      exact z_lret C d_X_held_21 (by decide) (by decide) (by rw [show sp_held s x n = -1 from if_pos (by rw [Int.toNat_natCast]; omega)]; exact ⟨rfl, rfl⟩)
set_option maxRecDepth 100000 in
set_option maxHeartbeats 4000000 in
theorem cX_about (i w : Int) (hI : Inv s) (hx : xG cI cZ cJ cB X O bnd mkr g s kp wk σ) (ri : -2147483648 ≤ i ∧ i ≤ 2147483647) (rw : -2147483648 ≤ w ∧ w ≤ 2147483647) : zM l D vwCl A (ztys cI cZ cJ cB) (zF A X) y_X_about ws_X_about (zroom 1 0 0) [.ref (X 0), iv i, iv w] σ (fun r σ' => σ' = σ ∧ r = some (iv (sp_about s i w))) := by
  refine zMet2 (zF_ok A X) (by decide) (Nat.le_of_ble_eq_true rfl) (fun K hKl C => ?_)
  obtain ⟨hO, hX, h1, h2, h3, h4, h5, hB, hBf, hbn, hmk, hvl, hwk, hkp, hk1, hk2, hk3⟩ := id hx
  have hmd := hI.md
  refine z_aload_n C d_X_about_0 rfl ?_
  refine z_iload_n C d_X_about_1 rfl ?_
  refine z_callV C hKl (cX_makerOf i hI hx ri) (zgood (fun _ h => h) tw_co_X_makerOf) rfl (hX) rfl tw_ml_X_100 tw_im_X_makerOf tw_se_X_makerOf tw_in_X pd_X_makerOf (by decide) rfl (Nat.le_of_ble_eq_true rfl) (by decide) d_X_about_2 (fun r σ hp => ?_)
  obtain ⟨rfl, rfl⟩ := hp
  by_cases hbad : i < 0 ∨ s 23 0 ≤ i
  · rw [if_pos hbad, show va_rf none = Value.null from rfl]
    refine z_astore_nN C d_X_about_5 (by decide) ?_
    refine z_aload_nN C d_X_about_6 rfl ?_
    refine z_ifnonnullN C d_X_about_7 ?_
    refine z_iconst C d_X_about_10 ?_
    exact z_iret C d_X_about_11 (by decide) (by decide) (by rw [show sp_about s i w = -1 from if_pos (by omega)]; exact ⟨rfl, rfl⟩)
  · obtain ⟨x, rfl⟩ := Int.eq_ofNat_of_zero_le (show 0 ≤ i by omega)
    obtain ⟨a, kd, con, kept, iw, kf, zf, m1, ⟨m2, nd, ka, la, m3, m4, m5⟩, m6⟩ := hmk x (by omega)
    obtain ⟨-, n1, n2, n3, n4, n5, n6⟩ := m4
    rw [if_neg hbad, Int.toNat_natCast, m1, show va_rf (some a) = Value.ref a from rfl]
    have hin := hI.inn x
    refine z_astore_n C d_X_about_5 (by decide) ?_
    refine z_aload_n C d_X_about_6 rfl ?_
    refine z_ifnonnull C 12 d_X_about_7 (by decide) ?_
    refine z_iload_n C d_X_about_12 rfl ?_
    by_cases c0 : w = 0
    · subst c0
      refine z_tableIn C 44 (by omega) d_X_about_13 (by omega) (by omega) (off := 31) (by decide) (by decide) ?_
      refine z_aload_n C d_X_about_44 rfl ?_
      refine z_getN C in_B (m3) rfl 2 (by decide) nl_121 rfl rfl d_X_about_45 ?_
      exact z_iret C d_X_about_48 (by decide) (by decide) (by unfold sp_about; rw [if_neg (by omega), Int.toNat_natCast, if_pos (by omega)]; exact ⟨rfl, rfl⟩)
    by_cases c1 : w = 1
    · subst c1
      refine z_tableIn C 49 (by omega) d_X_about_13 (by omega) (by omega) (off := 36) (by decide) (by decide) ?_
      refine z_aload_n C d_X_about_49 rfl ?_
      refine z_getN C in_B (m3) rfl 1 (by decide) nl_115 rfl rfl d_X_about_50 ?_
      exact z_iret C d_X_about_53 (by decide) (by decide) (by unfold sp_about; rw [if_neg (by omega), Int.toNat_natCast, if_neg (by omega), if_pos (by omega)]; exact ⟨rfl, rfl⟩)
    by_cases c2 : w = 2
    · subst c2
      refine z_tableIn C 54 (by omega) d_X_about_13 (by omega) (by omega) (off := 41) (by decide) (by decide) ?_
      refine z_aload_n C d_X_about_54 rfl ?_
      refine z_getN C in_B (m3) rfl 5 (by decide) nl_108 rfl rfl d_X_about_55 ?_
      refine z_getN C in_N (n1) rfl 2 (by decide) nl_47 rfl rfl d_X_about_58 ?_
      exact z_iret C d_X_about_61 (by decide) (by decide) (by unfold sp_about; rw [if_neg (by omega), Int.toNat_natCast, if_neg (by omega), if_neg (by omega), if_pos (by omega)]; exact ⟨rfl, rfl⟩)
    by_cases c3 : w = 3
    · subst c3
      refine z_tableIn C 62 (by omega) d_X_about_13 (by omega) (by omega) (off := 49) (by decide) (by decide) ?_
      refine z_aload_n C d_X_about_62 rfl ?_
      refine z_getN C in_B (m3) rfl 4 (by decide) nl_88 rfl rfl d_X_about_63 ?_
      exact z_iret C d_X_about_66 (by decide) (by decide) (by unfold sp_about; rw [if_neg (by omega), Int.toNat_natCast, if_neg (by omega), if_neg (by omega), if_neg (by omega), if_pos (by omega)]; exact ⟨rfl, rfl⟩)
    refine z_tableOut C 67 (by omega) d_X_about_13 (by omega) (by decide) ?_
    refine z_iconst C d_X_about_67 ?_
    exact z_iret C d_X_about_68 (by decide) (by decide) (by unfold sp_about; rw [if_neg (by omega), if_neg c0, if_neg c1, if_neg c2, if_neg c3]; exact ⟨rfl, rfl⟩)
set_option maxRecDepth 100000 in
set_option maxHeartbeats 4000000 in
theorem cX_count (w : Int) (rw : -2147483648 ≤ w ∧ w ≤ 2147483647) (hI : Inv s) (hx : xG cI cZ cJ cB X O bnd mkr g s (fun p => kpt s p - 1) wk σ) : zM l D vwCl A (ztys cI cZ cJ cB) (zF A X) y_X_count ws_X_count (zroom 1 0 0) [.ref (X 0), iv w] σ (fun r σ' => σ' = σ ∧ r = some (iv (sp_count s w))) := by
  refine zMet2 (zF_ok A X) (by decide) (Nat.le_of_ble_eq_true rfl) (fun K hKl C => ?_)
  obtain ⟨hO, hX, h1, h2, h3, h4, h5, hB, hBf, hbn, hmk, hvl, hwk, hkp, hk1, hk2, hk3⟩ := id hx
  have hop := hI.op
  refine z_iload_n C d_X_count_0 rfl ?_
  by_cases c0 : w = 0
  · subst c0
    refine z_tableIn C 40 (by omega) d_X_count_1 (by omega) (by omega) (off := 39) (by decide) (by decide) ?_
    refine z_aload_n C d_X_count_40 rfl ?_
    refine z_get C in_X (hX) rfl 6 (by decide) tw_fl_X_13 rfl rfl d_X_count_41 ?_
    exact z_iret C d_X_count_44 (by decide) (by decide) (⟨rfl, rfl⟩)
  by_cases c1 : w = 1
  · subst c1
    refine z_tableIn C 45 (by omega) d_X_count_1 (by omega) (by omega) (off := 44) (by decide) (by decide) ?_
    refine z_aload_n C d_X_count_45 rfl ?_
    refine z_get C in_X (hX) rfl 7 (by decide) tw_fl_X_143 rfl rfl d_X_count_46 ?_
    exact z_iret C d_X_count_49 (by decide) (by decide) (⟨rfl, rfl⟩)
  by_cases c2 : w = 2
  · subst c2
    refine z_tableIn C 50 (by omega) d_X_count_1 (by omega) (by omega) (off := 49) (by decide) (by decide) ?_
    refine z_aload_n C d_X_count_50 rfl ?_
    refine z_callV C hKl (cX_countBindings hx) (zgood (fun _ h => h) tw_co_X_countBindings) rfl (hX) rfl tw_ml_X_146 tw_im_X_countBindings tw_se_X_countBindings tw_in_X pd_X_countBindings (by decide) rfl (Nat.le_of_ble_eq_true rfl) (by decide) d_X_count_51 (fun r σ hp => ?_)
    obtain ⟨rfl, rfl⟩ := hp
    exact z_iret C d_X_count_54 (by decide) (by decide) (⟨rfl, rfl⟩)
  by_cases c3 : w = 3
  · subst c3
    refine z_tableIn C 55 (by omega) d_X_count_1 (by omega) (by omega) (off := 54) (by decide) (by decide) ?_
    refine z_aload_n C d_X_count_55 rfl ?_
    refine z_iconst C d_X_count_56 ?_
    refine z_callV C hKl (cX_countKept 1 11 (Or.inl ⟨rfl, rfl⟩) hI hx) (zgood (fun _ h => h) tw_co_X_countKept) rfl (hX) rfl tw_ml_X_84 tw_im_X_countKept tw_se_X_countKept tw_in_X pd_X_countKept (by decide) rfl (Nat.le_of_ble_eq_true rfl) (by decide) d_X_count_57 (fun r σ hp => ?_)
    obtain ⟨rfl, rfl⟩ := hp
    exact z_iret C d_X_count_60 (by decide) (by decide) (⟨rfl, rfl⟩)
  by_cases c4 : w = 4
  · subst c4
    refine z_tableIn C 61 (by omega) d_X_count_1 (by omega) (by omega) (off := 60) (by decide) (by decide) ?_
    refine z_aload_n C d_X_count_61 rfl ?_
    refine z_iconst C d_X_count_62 ?_
    refine z_callV C hKl (cX_countKept 2 12 (Or.inr ⟨rfl, rfl⟩) hI hx) (zgood (fun _ h => h) tw_co_X_countKept) rfl (hX) rfl tw_ml_X_84 tw_im_X_countKept tw_se_X_countKept tw_in_X pd_X_countKept (by decide) rfl (Nat.le_of_ble_eq_true rfl) (by decide) d_X_count_63 (fun r σ hp => ?_)
    obtain ⟨rfl, rfl⟩ := hp
    exact z_iret C d_X_count_66 (by decide) (by decide) (⟨rfl, rfl⟩)
  by_cases c5 : w = 5
  · subst c5
    refine z_tableIn C 67 (by omega) d_X_count_1 (by omega) (by omega) (off := 66) (by decide) (by decide) ?_
    refine z_aload_n C d_X_count_67 rfl ?_
    refine z_get C in_X (hX) rfl 8 (by decide) tw_fl_X_80 rfl rfl d_X_count_68 ?_
    refine z_if_eq C 78 (by omega) d_X_count_71 (by decide) (fun h71 => ?_) (fun h71 => ?_)
    · refine z_iconst C d_X_count_78 ?_
      exact z_iret C d_X_count_79 (by decide) (by decide) (by rw [show sp_count s 5 = 0 from h71]; exact ⟨rfl, rfl⟩)
    · refine z_iconst C d_X_count_74 ?_
      refine z_goto C 79 d_X_count_75 (by decide) ?_
      exact z_iret C d_X_count_79 (by decide) (by decide) (by rw [show sp_count s 5 = 1 from by show s 15 0 = 1; omega]; exact ⟨rfl, rfl⟩)
  refine z_tableOut C 80 (by omega) d_X_count_1 (by omega) (by decide) ?_
  refine z_iconst C d_X_count_80 ?_
  exact z_iret C d_X_count_81 (by decide) (by decide) (by rw [show sp_count s w = -1 from by unfold sp_count; rw [if_neg c0, if_neg c1, if_neg c2, if_neg c3, if_neg c4, if_neg c5]]; exact ⟨rfl, rfl⟩)
end XC2
end
section
/-! writes in the class's world -/
theorem ob_inj {c c' : Nat} {l l' : List Value} (h : (some (ob c l) : Option va_E) = some (ob c' l')) : c = c' ∧ l = l' := by
  have h1 := Option.some.inj h
  injection h1 with h2
  exact ⟨(Prod.mk.inj h2).1, (Prod.mk.inj h2).2⟩
theorem iv_inj {a b : Int} (ha : -2147483648 ≤ a ∧ a ≤ 2147483647) (hb : -2147483648 ≤ b ∧ b ≤ 2147483647) (h : iv a = iv b) : a = b := by
  injection h with h
  exact (z32_eq ha hb).mp h
theorem BB.wr_eq {cI cZ : ClassId} {X : Nat → Nat} {O : Nat → Prop} {σ : zh} {a kd' kd nd : Nat} {inj' key' con' sc' kept' iw' sz : Int} {kf zf : Nat → Int} {v1 v2 v3 v4 v6 v7 : Value} (h : BB cI cZ X O σ a kd' inj' key' con' sc' kept' iw' sz kf zf) (ha : σ a = some (ob 0 [.ref kd, v1, v2, v3, v4, .ref nd, v6, v7])) (v w : Int) : BB cI cZ X O (zput σ a (ob 0 [.ref kd, v1, v2, v3, v4, .ref nd, iv v, iv w])) a kd' inj' key' con' sc' v w sz kf zf := by
  obtain ⟨h1, nd', ka, la, h2, h3, h4⟩ := h
  have e := (ob_inj (h2.symm.trans ha)).2
  simp only [List.cons.injEq, and_true] at e
  obtain ⟨e1, e2, e3, e4, e5, e6, -, -⟩ := e
  refine ⟨h1, nd', ka, la, ?_, h3.keep (fun z => ?_) (fun z => ?_) (fun z => ?_), h4⟩
  · rw [zput_s, e1, e2, e3, e4, e5, e6]
  · have := h3.2.1; rw [z, ha] at this; exact absurd (ob_inj this).1 (by decide)
  · have := h3.2.2.1; rw [z, ha] at this; cases this
  · have := h3.2.2.2.1; rw [z, ha] at this; cases this
theorem BB.wr_ne {cI cZ : ClassId} {X : Nat → Nat} {O : Nat → Prop} {σ : zh} {a b kd' : Nat} {inj' key' con' sc' kept' iw' sz : Int} {kf zf : Nat → Int} {fs : List Value} {e : va_E} (h : BB cI cZ X O σ b kd' inj' key' con' sc' kept' iw' sz kf zf) (ha : σ a = some (ob 0 fs)) (hne : b ≠ a) : BB cI cZ X O (zput σ a e) b kd' inj' key' con' sc' kept' iw' sz kf zf := by
  obtain ⟨h1, nd', ka, la, h2, h3, h4⟩ := h
  refine ⟨h1, nd', ka, la, by rw [zput_n hne]; exact h2, h3.keep (fun z => ?_) (fun z => ?_) (fun z => ?_), h4⟩
  · have := h3.2.1; rw [z, ha] at this; exact absurd (ob_inj this).1 (by decide)
  · have := h3.2.2.1; rw [z, ha] at this; cases this
  · have := h3.2.2.2.1; rw [z, ha] at this; cases this
theorem BB.rec {cI cZ : ClassId} {X : Nat → Nat} {O : Nat → Prop} {σ : zh} {a kd : Nat} {inj key con sc kept iw sz : Int} {kf zf : Nat → Int} (h : BB cI cZ X O σ a kd inj key con sc kept iw sz kf zf) : ∃ nd ka la, σ a = some (ob 0 [.ref kd, iv inj, iv key, iv con, iv sc, .ref nd, iv kept, iv iw]) ∧ NDk cI cZ O σ nd ka la sz kf zf := by
  obtain ⟨h1, nd', ka, la, h2, h3, h4⟩ := h
  exact ⟨nd', ka, la, h2, h3⟩
section XW
variable {cI cZ cJ cB : ClassId} {X : Nat → Nat} {O : Nat → Prop} {bnd mkr : Nat → Option Nat} {g : Nat → Nat → Int} {σ : zh} {s : St} {kp wk : Nat → Int}
/-- different pairs, different bindings -/
theorem xB.dis {σ : zh} {p q a b kd kd' : Nat} {con sc kept iw sz con' sc' kept' iw' sz' : Int} {kf zf kf' zf' : Nat → Int} (hp : p < 36) (hq : q < 36) (h : BB cI cZ X O σ a kd ((p / 12 : Nat) : Int) ((p % 12 : Nat) : Int) con sc kept iw sz kf zf) (h' : BB cI cZ X O σ b kd' ((q / 12 : Nat) : Int) ((q % 12 : Nat) : Int) con' sc' kept' iw' sz' kf' zf') (e : a = b) : p = q := by
  subst e
  obtain ⟨nd, ka, la, h2, -⟩ := h.rec
  obtain ⟨nd', ka', la', h2', -⟩ := h'.rec
  have e := (ob_inj (h2.symm.trans h2')).2
  simp only [List.cons.injEq, and_true] at e
  have e1 := iv_inj (by omega) (by omega) e.2.1
  have e2 := iv_inj (by omega) (by omega) e.2.2.1
  omega
/-- kept and inWork of one binding -/
theorem xG.bw (hx : xG cI cZ cJ cB X O bnd mkr g s kp wk σ) {p a kd nd : Nat} {v1 v2 v3 v4 v6 v7 : Value} (hp : p < 36) (hb : bnd p = some a) (ha : σ a = some (ob 0 [.ref kd, v1, v2, v3, v4, .ref nd, v6, v7])) (v w : Int) (hv : -1 ≤ v ∧ v ≤ 200) (hw : w = 0 ∨ w = 1) : xG cI cZ cJ cB X O bnd mkr g s (iup kp p v) (iup wk p w) (zput σ a (ob 0 [.ref kd, v1, v2, v3, v4, .ref nd, iv v, iv w])) := by
  obtain ⟨hO, hX, h1, h2, h3, h4, h5, hB, hBf, hbn, hmk, hvl, hwk, hkp, hk⟩ := hx
  refine ⟨hO, zput_o ha hX (by intro h; cases h), zput_o ha h1 (by intro h; cases h), zput_o ha h2 (by intro h; cases h), zput_o ha h3 (by intro h; cases h), zput_o ha h4 (by intro h; cases h), zput_o ha h5 (by intro h; cases h), ⟨hB.1.keep (fun z => ?_) (fun z => ?_) (fun z => ?_), hB.2⟩, hBf, fun q hq => ?_, fun i hi => ?_, hvl, fun q => ?_, fun q => ?_, hk⟩
  · have := hB.1.2.1; rw [z, ha] at this; exact absurd (ob_inj this).1 (by decide)
  · have := hB.1.2.2.1; rw [z, ha] at this; cases this
  · have := hB.1.2.2.2.1; rw [z, ha] at this; cases this
  · rcases hbn q hq with z | ⟨b, kd', con, sc, sz, kf, zf, z1, z2, z3⟩
    · exact Or.inl z
    · refine Or.inr ⟨b, kd', con, sc, sz, kf, zf, z1, ?_, z3⟩
      by_cases e : q = p
      · subst e
        rw [hb] at z1
        cases z1
        rw [iup_s, iup_s]
        exact z2.wr_eq ha v w
      · rw [iup_n e, iup_n e]
        rcases hbn p hp with y | ⟨b', kd2, con2, sc2, sz2, kf2, zf2, y1, y2, y3⟩
        · rw [hb] at y; cases y.1
        · rw [hb] at y1
          cases y1
          exact z2.wr_ne ha (fun ee => e (xB.dis hq hp z2 y2 ee))
  · obtain ⟨b, kd', con, kept, iw, kf, zf, z1, z2, z3⟩ := hmk i hi
    by_cases e : b = a
    · subst e
      exact ⟨b, kd', con, v, w, kf, zf, z1, z2.wr_eq ha v w, z3⟩
    · exact ⟨b, kd', con, kept, iw, kf, zf, z1, z2.wr_ne ha e, z3⟩
  · by_cases e : q = p
    · rw [e, iup_s]; exact hw
    · rw [iup_n e]; exact hwk q
  · by_cases e : q = p
    · rw [e, iup_s]; exact hv
    · rw [iup_n e]; exact hkp q
/-- a write of a cell that is none of the bindings', with what is asked of the six own cells -/
theorem xG.tl (hx : xG cI cZ cJ cB X O bnd mkr g s kp wk σ) {b : Nat} {e e0 : va_E} (hb : σ b = some e0) (ho : xoff cI cZ e0) : NDk cI cZ O (zput σ b e) (X 6) (X 7) (X 8) (s 4 0) (g 2) (g 3) ∧ (∀ p, p < 36 → xB cI cZ X O bnd s kp wk (zput σ b e) p) ∧ ∀ i : Nat, (i : Int) < s 23 0 → xMk cI cZ X O mkr s (zput σ b e) i := by
  obtain ⟨hO, hX, h1, h2, h3, h4, h5, hB, hBf, hbn, hmk, hvl, hwk, hkp, hk⟩ := hx
  exact ⟨hB.1.off hb ho, fun p hp => (hbn p hp).off hb ho, fun i hi => (hmk i hi).off hb ho⟩
theorem xG.gw (hx : xG cI cZ cJ cB X O bnd mkr g s kp wk σ) (f : Nat → Int) : xG cI cZ cJ cB X O bnd mkr (srow g 1 f) s kp wk (zput σ (X 5) (la cJ 144 f)) := by
  obtain ⟨t1, t2, t3⟩ := hx.tl (e := la cJ 144 f) hx.2.2.2.2.2.2.1 xoff_la
  obtain ⟨hO, hX, h1, h2, h3, h4, h5, hB, hBf, hbn, hmk, hvl, hwk, hkp, hk⟩ := hx
  exact ⟨hO, zput_o h5 hX (by intro h; cases h), zput_o h5 h1 (by intro h; cases h), zput_o h5 h2 (by intro h; cases h), zput_o h5 h3 (by intro h; cases h), zput_o h5 h4 (by intro h; cases h), zput_s _ _ _, ⟨t1, hB.2⟩, hBf, t2, t3, hvl, hwk, hkp, hk⟩
theorem xG.p1 (hx : xG cI cZ cJ cB X O bnd mkr g s kp wk σ) (k : Nat) (v : Int) : xG cI cZ cJ cB X O bnd mkr g (sup s 0 k v) kp wk (zput σ (X 1) (ia cI 3 (iup (s 0) k v))) := by
  obtain ⟨t1, t2, t3⟩ := hx.tl (e := ia cI 3 (iup (s 0) k v)) hx.2.2.1 xoff_i3
  obtain ⟨hO, hX, h1, h2, h3, h4, h5, hB, hBf, hbn, hmk, hvl, hwk, hkp, hk⟩ := hx
  exact ⟨hO, zput_o h1 hX (by intro h; cases h), zput_s _ _ _, zput_o h1 h2 (by intro h; cases h), zput_o h1 h3 (by intro h; cases h), zput_o h1 h4 (by intro h; cases h), zput_o h1 h5 (by intro h; cases h), ⟨t1, hB.2⟩, hBf, t2, t3, hvl, hwk, hkp, hk⟩
/-- the object's own numbers -/
theorem xG.o1 (hx : xG cI cZ cJ cB X O bnd mkr g s kp wk σ) (v : Int) : xG cI cZ cJ cB X O bnd mkr g (sup s 1 0 v) kp wk (zput σ (X 0) (ob 2 (xfs X (sup s 1 0 v)))) := by
  obtain ⟨t1, t2, t3⟩ := hx.tl (e := ob 2 (xfs X (sup s 1 0 v))) hx.2.1 xoff_o2
  obtain ⟨hO, hX, h1, h2, h3, h4, h5, hB, hBf, hbn, hmk, hvl, hwk, hkp, hk⟩ := hx
  exact ⟨hO, zput_s _ _ _, zput_o hX h1 (by intro h; cases h), zput_o hX h2 (by intro h; cases h), zput_o hX h3 (by intro h; cases h), zput_o hX h4 (by intro h; cases h), zput_o hX h5 (by intro h; cases h), ⟨t1, hB.2⟩, hBf, t2, t3, hvl, hwk, hkp, hk⟩
theorem xG.o15 (hx : xG cI cZ cJ cB X O bnd mkr g s kp wk σ) (v : Int) : xG cI cZ cJ cB X O bnd mkr g (sup s 15 0 v) kp wk (zput σ (X 0) (ob 2 (xfs X (sup s 15 0 v)))) := by
  obtain ⟨t1, t2, t3⟩ := hx.tl (e := ob 2 (xfs X (sup s 15 0 v))) hx.2.1 xoff_o2
  obtain ⟨hO, hX, h1, h2, h3, h4, h5, hB, hBf, hbn, hmk, hvl, hwk, hkp, hk⟩ := hx
  exact ⟨hO, zput_s _ _ _, zput_o hX h1 (by intro h; cases h), zput_o hX h2 (by intro h; cases h), zput_o hX h3 (by intro h; cases h), zput_o hX h4 (by intro h; cases h), zput_o hX h5 (by intro h; cases h), ⟨t1, hB.2⟩, hBf, t2, t3, hvl, hwk, hkp, hk⟩
/-- fewer instances -/
theorem xG.o23 (hx : xG cI cZ cJ cB X O bnd mkr g s kp wk σ) (v : Int) (hv : v ≤ s 23 0) : xG cI cZ cJ cB X O bnd mkr g (sup s 23 0 v) kp wk (zput σ (X 0) (ob 2 (xfs X (sup s 23 0 v)))) := by
  obtain ⟨t1, t2, t3⟩ := hx.tl (e := ob 2 (xfs X (sup s 23 0 v))) hx.2.1 xoff_o2
  obtain ⟨hO, hX, h1, h2, h3, h4, h5, hB, hBf, hbn, hmk, hvl, hwk, hkp, hk⟩ := hx
  have e : sup s 23 0 v 23 0 = v := iup_s (s 23) 0 v
  exact ⟨hO, zput_s _ _ _, zput_o hX h1 (by intro h; cases h), zput_o hX h2 (by intro h; cases h), zput_o hX h3 (by intro h; cases h), zput_o hX h4 (by intro h; cases h), zput_o hX h5 (by intro h; cases h), ⟨t1, hB.2⟩, hBf, t2, fun i hi => t3 i (by omega), fun i j hi hj => hvl i j (by omega) hj, hwk, hkp, hk⟩
/-- nothing of a state that no call shows matters -/
theorem xG.sq {s' : St} (hx : xG cI cZ cJ cB X O bnd mkr g s kp wk σ) (h : seq s' s) : xG cI cZ cJ cB X O bnd mkr g s' kp wk σ := by
  obtain ⟨hO, hX, h1, h2, h3, h4, h5, hB, hBf, hbn, hmk, hvl, hwk, hkp, hk⟩ := hx
  obtain ⟨q1, q2, q3⟩ := h
  have e := fun f hf => q1 f hf
  have hmd : s' 23 0 = s 23 0 := congrFun (e 23 rfl) 0
  refine ⟨hO, ?_, by rw [e 0 rfl]; exact h1, h2, h3, h4, h5, by rw [e 4 rfl]; exact hB, ?_, fun p hp => ?_, fun i hi => ?_, fun i j hi hj => ?_, hwk, hkp, hk⟩
  · rw [hX]
    unfold xfs
    rw [e 1 rfl, e 23 rfl, e 15 rfl]
  · rw [e 4 rfl, e 2 rfl, e 3 rfl]; exact hBf
  · have z := hbn p hp
    unfold xB BK at z ⊢
    rw [e 5 rfl, e 6 rfl, e 7 rfl, e 8 rfl, e 9 rfl, e 10 rfl]
    exact z
  · have hi' : (i : Int) < s 23 0 := by omega
    obtain ⟨a, kd, con, kept, iw, kf, zf, z1, z2, z3⟩ := hmk i hi'
    have w := q2 i hi'
    refine ⟨a, kd, con, kept, iw, kf, zf, z1, by rw [w.1, w.2.1, w.2.2.1, w.2.2.2]; exact z2, fun j hj => ?_⟩
    rw [w.2.2.2] at hj
    have hsz : s 19 i ≤ 4 := by
      obtain ⟨nd, ka, la, -, n⟩ := z2.rec
      exact n.2.2.2.2.1.2
    have w2 := q3 (4 * i + j) (by omega)
    rw [w2.1, w2.2.1]
    exact z3 j hj
  · have hi' : (i : Int) < s 23 0 := by omega
    have w := q2 i hi'
    rw [w.2.2.2] at hj
    have hsz : s 19 i ≤ 4 := by
      obtain ⟨a, kd, con, kept, iw, kf, zf, z1, z2, z3⟩ := hmk i hi'
      obtain ⟨nd, ka, la, -, n⟩ := z2.rec
      exact n.2.2.2.2.1.2
    rw [(q3 (4 * i + j) (by omega)).2.2]
    exact hvl i j hi' hj
end XW
/-- what no getting changes: needs and their arrays, a binding's first six fields -/
def xim (σ σ' : zh) : Prop := (∀ b fs, σ b = some (ob 1 fs) → σ' b = some (ob 1 fs)) ∧ (∀ b c f, σ b = some (ia c 4 f) → σ' b = some (ia c 4 f)) ∧ ∀ b v0 v1 v2 v3 v4 v5 v6 v7, σ b = some (ob 0 [v0, v1, v2, v3, v4, v5, v6, v7]) → ∃ w6 w7, σ' b = some (ob 0 [v0, v1, v2, v3, v4, v5, w6, w7])
def xF (O : Nat → Prop) (σ σ' : zh) : Prop := xfr O O σ σ' ∧ xim σ σ'
theorem xF.rf {O : Nat → Prop} {σ : zh} : xF O σ σ := ⟨xfr.rf, fun _ _ h => h, fun _ _ _ h => h, fun _ _ _ _ _ _ _ v6 v7 h => ⟨v6, v7, h⟩⟩
theorem xF.tr {O : Nat → Prop} {σ σ' σ'' : zh} (h : xF O σ σ') (k : xF O σ' σ'') : xF O σ σ'' := ⟨h.1.tr k.1, fun b fs e => k.2.1 b fs (h.2.1 b fs e), fun b c f e => k.2.2.1 b c f (h.2.2.1 b c f e), fun b v0 v1 v2 v3 v4 v5 v6 v7 e => by
  obtain ⟨w6, w7, e2⟩ := h.2.2.2 b v0 v1 v2 v3 v4 v5 v6 v7 e
  exact k.2.2.2 b v0 v1 v2 v3 v4 v5 w6 w7 e2⟩
theorem xF.off {O : Nat → Prop} {σ : zh} {b : Nat} {e e0 : va_E} (hO : O b) (hb : σ b = some e0) (h0 : ∀ fs, e0 ≠ ob 0 fs) (h1 : ∀ fs, e0 ≠ ob 1 fs) (h2 : ∀ c f, e0 ≠ ia c 4 f) : xF O σ (zput σ b e) :=
  ⟨xfr.put hO, fun c fs h => zput_o hb h (h1 _), fun c d f h => zput_o hb h (h2 _ _), fun c v0 v1 v2 v3 v4 v5 v6 v7 h => ⟨v6, v7, zput_o hb h (h0 _)⟩⟩
theorem xF.bd {O : Nat → Prop} {σ : zh} {a : Nat} {v0 v1 v2 v3 v4 v5 v6 v7 w6 w7 : Value} (hO : O a) (ha : σ a = some (ob 0 [v0, v1, v2, v3, v4, v5, v6, v7])) : xF O σ (zput σ a (ob 0 [v0, v1, v2, v3, v4, v5, w6, w7])) := by
  refine ⟨xfr.put hO, fun c fs h => zput_o ha h (by intro z; cases z), fun c d f h => zput_o ha h (by intro z; cases z), fun c u0 u1 u2 u3 u4 u5 u6 u7 h => ?_⟩
  by_cases e : c = a
  · subst e
    have q := (ob_inj (h.symm.trans ha)).2
    simp only [List.cons.injEq, and_true] at q
    obtain ⟨q0, q1, q2, q3, q4, q5, -, -⟩ := q
    exact ⟨w6, w7, by rw [zput_s, q0, q1, q2, q3, q4, q5]⟩
  · exact ⟨u6, u7, by rw [zput_n e]; exact h⟩
section XWR
variable {K : zC} {D : va_G} {A : Nat → Prop} {cI cZ cJ cB : ClassId} {X : Nat → Nat} {O : Nat → Prop} {bnd mkr : Nat → Option Nat} {g : Nat → Nat → Int} {σ : zh} {s : St} {kp wk : Nat → Int} {rm : Room} {cc : ByteArray} {nm : String} {nL : Nat} {ret : Option FieldType} {Q : State → Prop} {cells slots pc : Nat} {lv : List (Option Value)} {st : List Value}
theorem x_kept (C : zCx K D vwCl A (ztys cI cZ cJ cB) (zF A X) rm cc "InjectorTree" nm zw nL ret) (hx : xG cI cZ cJ cB X O bnd mkr g s kp wk σ) {p a kd nd : Nat} {v1 v2 v3 v4 v6 : Value} {w0 v : Int} (hp : p < 36) (hb : bnd p = some a) (ha : σ a = some (ob 0 [.ref kd, v1, v2, v3, v4, .ref nd, v6, iv w0])) (hv : -1 ≤ v ∧ v ≤ 200) (hw : w0 = wk p) (hO : O a) (hd : decode cc pc = .ok (.putfield 91, 3))
    (kk : ∀ σ' : zh, xG cI cZ cJ cB X O bnd mkr g s (iup kp p v) wk σ' → xF O σ σ' → zJ K D vwCl A nL Q cells slots σ' (pc + 3) lv st) : zJ K D vwCl A nL Q cells slots σ pc lv (iv v :: .ref a :: st) := by
  refine z_putN C in_B t_B tk_B nm_B ha rfl 6 (by decide) nl_91 rfl rfl (tk_B 6 (by decide)) rfl rfl (Nat.le_of_ble_eq_true rfl) hd ?_
  have h := hx.bw hp hb ha v w0 hv (by rw [hw]; exact hx.2.2.2.2.2.2.2.2.2.2.2.2.1 p)
  rw [show iup wk p w0 = wk from by funext q; by_cases e : q = p; rw [e, iup_s, hw]; rw [iup_n e]] at h
  exact kk _ h (xF.bd hO ha)
theorem x_inw (C : zCx K D vwCl A (ztys cI cZ cJ cB) (zF A X) rm cc "InjectorTree" nm zw nL ret) (hx : xG cI cZ cJ cB X O bnd mkr g s kp wk σ) {p a kd nd : Nat} {v1 v2 v3 v4 v7 : Value} {k0 w : Int} (hp : p < 36) (hb : bnd p = some a) (ha : σ a = some (ob 0 [.ref kd, v1, v2, v3, v4, .ref nd, iv k0, v7])) (hw : w = 0 ∨ w = 1) (hk : k0 = kp p) (hO : O a) (hd : decode cc pc = .ok (.putfield 172, 3))
    (kk : ∀ σ' : zh, xG cI cZ cJ cB X O bnd mkr g s kp (iup wk p w) σ' → xF O σ σ' → zJ K D vwCl A nL Q cells slots σ' (pc + 3) lv st) : zJ K D vwCl A nL Q cells slots σ pc lv (iv w :: .ref a :: st) := by
  refine z_putN C in_B t_B tk_B nm_B ha rfl 7 (by decide) nl_172 rfl rfl (tk_B 7 (by decide)) (znarz hw) (zfitz hw) (Nat.le_of_ble_eq_true rfl) hd ?_
  have h := hx.bw hp hb ha k0 w (by rw [hk]; exact hx.2.2.2.2.2.2.2.2.2.2.2.2.2.1 p) hw
  rw [show iup kp p k0 = kp from by funext q; by_cases e : q = p; rw [e, iup_s, hk]; rw [iup_n e]] at h
  exact kk _ h (xF.bd hO ha)
theorem x_gath (C : zCx K D vwCl A (ztys cI cZ cJ cB) (zF A X) rm cc "InjectorTree" nm zw nL ret) (hx : xG cI cZ cJ cB X O bnd mkr g s kp wk σ) {i v : Int} (k : Nat) (hk : i = (k : Int)) (hn : k < 144) (hd : decode cc pc = .ok (.lastore, 1))
    (kk : ∀ σ' : zh, xG cI cZ cJ cB X O bnd mkr (sup g 1 k v) s kp wk σ' → xF O σ σ' → zJ K D vwCl A nL Q cells slots σ' (pc + 1) lv st) : zJ K D vwCl A nL Q cells slots σ pc lv (jv v :: iv i :: .ref (X 5) :: st) := by
  refine z_last C 2 rfl hx.2.2.2.2.2.2.1 k hk hn (by decide) hd ?_
  exact kk _ (hx.gw (iup (g 1) k v)) (xF.off hx.1.2.2.2.2.2 hx.2.2.2.2.2.2.1 (fun _ h => (by cases h)) (fun _ h => (by cases h)) (fun _ _ h => (by cases h)))
end XWR
end
section
/-! a new instance -/
section XM
variable {cI cZ cJ cB : ClassId} {X : Nat → Nat} {O : Nat → Prop} {bnd mkr : Nat → Option Nat} {g : Nat → Nat → Int} {σ : zh} {s : St} {kp wk : Nat → Int}
theorem xG.mkn (hI : Inv s) (hx : xG cI cZ cJ cB X O bnd mkr g s kp wk σ) {p a : Nat} (hp : p < 36) (hb : bnd p = some a) (h5p : s 5 p = 3) (hm : s 23 0 < 100) (vs : Nat → Int) (hvs : ∀ j : Nat, (j : Int) < s 8 p → g 1 (4 * p + j) = vs j) : xG cI cZ cJ cB X O bnd (va_up mkr (s 23 0).toNat (some a)) (srow g 0 (va_cpy (g 1) (g 0) (4 * p) (4 * (s 23 0).toNat) 4)) (mk s p vs) kp wk (zput (zput (zput σ (X 0) (ob 2 (xfs X (mk s p vs)))) (X 3) (ra cB 100 (va_up mkr (s 23 0).toNat (some a)))) (X 4) (la cJ 400 (va_cpy (g 1) (g 0) (4 * p) (4 * (s 23 0).toNat) 4))) := by
  obtain ⟨hO, hX, h1, h2, h3, h4, h5, hB, hBf, hbn, hmk, hvl, hwk, hkp, hk⟩ := hx
  have hmd := hI.md
  have hnn := hI.nn p
  generalize eF : ob 2 (xfs X (mk s p vs)) = F0
  generalize eR : ra cB 100 (va_up mkr (s 23 0).toNat (some a)) = R0
  generalize eL : la cJ 400 (va_cpy (g 1) (g 0) (4 * p) (4 * (s 23 0).toNat) 4) = L0
  have f3 : zput σ (X 0) F0 (X 3) = some (ra cB 100 mkr) := zput_o hX h3 (by intro h; cases h)
  have f4 : zput σ (X 0) F0 (X 4) = some (la cJ 400 (g 0)) := zput_o hX h4 (by intro h; cases h)
  have g4 : zput (zput σ (X 0) F0) (X 3) R0 (X 4) = some (la cJ 400 (g 0)) := zput_o f3 f4 (by intro h; cases h)
  have main : ∀ (b : Nat) (e1 : va_E), σ b = some e1 → (∀ z, ob 2 z ≠ e1) → (∀ z, ra cB 100 z ≠ e1) → (∀ z, la cJ 400 z ≠ e1) → zput (zput (zput σ (X 0) F0) (X 3) R0) (X 4) L0 b = some e1 := fun b e1 hb1 q1 q2 q3 => zput_o g4 (zput_o f3 (zput_o hX hb1 (q1 _)) (q2 _)) (q3 _)
  have tB : ∀ {b kd : Nat} {inj key con sc kept iw sz : Int} {kf zf : Nat → Int}, BB cI cZ X O σ b kd inj key con sc kept iw sz kf zf → BB cI cZ X O (zput (zput (zput σ (X 0) F0) (X 3) R0) (X 4) L0) b kd inj key con sc kept iw sz kf zf := fun h => ((h.off hX xoff_o2).off f3 xoff_ra).off g4 xoff_la
  refine ⟨hO, ?_, main _ _ h1 (fun _ h => by cases h) (fun _ h => by cases h) (fun _ h => by cases h), main _ _ h2 (fun _ h => by cases h) (fun _ h => by cases h) (fun _ h => by cases h), ?_, ?_, main _ _ h5 (fun _ h => by cases h) (fun _ h => by cases h) (fun _ h => by cases h), ⟨((hB.1.off hX xoff_o2).off f3 xoff_ra).off g4 xoff_la, hB.2⟩, hBf, fun q hq => ?_, fun i hi => ?_, fun i j hi hj => ?_, hwk, hkp, hk⟩
  · have hF0 : zput σ (X 0) F0 (X 0) = some (ob 2 (xfs X (mk s p vs))) := by rw [zput_s, eF]
    exact zput_o g4 (zput_o f3 hF0 (by intro h; cases h)) (by intro h; cases h)
  · have hR0 : zput (zput σ (X 0) F0) (X 3) R0 (X 3) = some (ra cB 100 (va_up mkr (s 23 0).toNat (some a))) := by rw [zput_s, eR]
    exact zput_o g4 hR0 (by intro h; cases h)
  · rw [zput_s, ← eL]
    rfl
  · rcases hbn q hq with z | ⟨b, kd, con, sc, sz, kf, zf, z1, z2, z3⟩
    · exact Or.inl z
    · exact Or.inr ⟨b, kd, con, sc, sz, kf, zf, z1, tB z2, z3⟩
  · rw [mk_23] at hi
    by_cases e : i = (s 23 0).toNat
    · rcases hbn p hp with z | ⟨b, kd, con, sc, sz, kf, zf, z1, z2, z3⟩
      · rw [hb] at z; cases z.1
      · rw [hb] at z1
        cases z1
        rcases z3 with z3 | z3 | z3
        · have := z3.1; omega
        · have := z3.1; omega
        · obtain ⟨-, -, z4, z5, z6⟩ := z3
          have e16 : mk s p vs 16 i = ((p % 12 : Nat) : Int) := by rw [e]; exact iup_s (s 16) _ _
          have e17 : mk s p vs 17 i = ((p / 12 : Nat) : Int) := by rw [e]; exact iup_s (s 17) _ _
          have e18 : mk s p vs 18 i = s 7 p := by rw [e]; exact iup_s (s 18) _ _
          have e19 : mk s p vs 19 i = s 8 p := by rw [e]; exact iup_s (s 19) _ _
          subst z4
          subst z5
          refine ⟨a, kd, con, kp p, wk p, kf, zf, by rw [e]; simp [va_up], by rw [e16, e17, e18, e19]; exact tB z2, fun j hj => ?_⟩
          rw [e19] at hj
          have e20 : mk s p vs 20 (4 * i + j) = s 9 (4 * p + j) := by
            have := cpn_in (g := s 20) (h := fun k => s 9 (4 * p + k)) (b := 4 * (s 23 0).toNat) (n := (s 8 p).toNat) (j := 4 * i + j) (by omega) (by omega)
            rw [show 4 * i + j - 4 * (s 23 0).toNat = j by omega] at this
            exact this
          have e21 : mk s p vs 21 (4 * i + j) = s 10 (4 * p + j) := by
            have := cpn_in (g := s 21) (h := fun k => s 10 (4 * p + k)) (b := 4 * (s 23 0).toNat) (n := (s 8 p).toNat) (j := 4 * i + j) (by omega) (by omega)
            rw [show 4 * i + j - 4 * (s 23 0).toNat = j by omega] at this
            exact this
          rw [e20, e21]
          exact z6 j hj
    · obtain ⟨b, kd, con, kept, iw, kf, zf, z1, z2, z3⟩ := hmk i (by omega)
      have e16 : mk s p vs 16 i = s 16 i := iup_n (f := s 16) e
      have e17 : mk s p vs 17 i = s 17 i := iup_n (f := s 17) e
      have e18 : mk s p vs 18 i = s 18 i := iup_n (f := s 18) e
      have e19 : mk s p vs 19 i = s 19 i := iup_n (f := s 19) e
      have hin := hI.inn i
      refine ⟨b, kd, con, kept, iw, kf, zf, by simp [va_up, e]; exact z1, by rw [e16, e17, e18, e19]; exact tB z2, fun j hj => ?_⟩
      rw [e19] at hj
      have e20 : mk s p vs 20 (4 * i + j) = s 20 (4 * i + j) := cpn_out (g := s 20) (h := fun k => s 9 (4 * p + k)) (by omega)
      have e21 : mk s p vs 21 (4 * i + j) = s 21 (4 * i + j) := cpn_out (g := s 21) (h := fun k => s 10 (4 * p + k)) (by omega)
      rw [e20, e21]
      exact z3 j hj
  · rw [mk_23] at hi
    show va_cpy (g 1) (g 0) (4 * p) (4 * (s 23 0).toNat) 4 (4 * i + j) = cpn (s 22) (4 * (s 23 0).toNat) (s 8 p).toNat vs (4 * i + j)
    by_cases e : i = (s 23 0).toNat
    · have e19 : mk s p vs 19 i = s 8 p := by rw [e]; exact iup_s (s 19) _ _
      rw [e19] at hj
      rw [cpn_in (by omega) (by omega), pk_cpy_in (by omega) (by omega), show 4 * i + j - 4 * (s 23 0).toNat = j by omega]
      exact hvs j hj
    · have e19 : mk s p vs 19 i = s 19 i := iup_n (f := s 19) e
      rw [e19] at hj
      have hin := hI.inn i
      rw [cpn_out (by omega), pk_cpy_out (by omega)]
      exact hvl i j (by omega) hj
theorem kpt_mk {s : St} (hI : Inv s) {p : Nat} (vs : Nat → Int) (h0 : kpt s p = 0) : (fun q => kpt (mk s p vs) q - 1) = if s 7 p = 0 then (fun q => kpt s q - 1) else iup (fun q => kpt s q - 1) p (s 23 0) := by
  have h11 := hI.si p
  have h12 := hI.re p
  have hsc := hI.sc p
  have e11 : mk s p vs 11 = (if s 7 p = 1 then iup (s 11) p (s 23 0 + 1) else s 11) := rfl
  have e12 : mk s p vs 12 = (if s 7 p = 2 then iup (s 12) p (s 23 0 + 1) else s 12) := rfl
  have hz : s 11 p + s 12 p = 0 := h0
  by_cases c : s 7 p = 0
  · rw [if_pos c]
    funext q
    unfold kpt
    rw [e11, e12, if_neg (by omega), if_neg (by omega)]
  · rw [if_neg c]
    funext q
    by_cases e : q = p
    · subst e
      rw [iup_s]
      unfold kpt
      rw [e11, e12]
      by_cases c1 : s 7 q = 1
      · rw [if_pos c1, if_neg (by omega), iup_s]; omega
      · rw [if_neg c1, if_pos (by omega), iup_s]; omega
    · rw [iup_n e]
      unfold kpt
      rw [e11, e12]
      by_cases c1 : s 7 p = 1
      · rw [if_pos c1, if_neg (by omega), iup_n e]
      · rw [if_neg c1, if_pos (by omega), iup_n e]
end XM
end
section
section XC3
variable {l : Launch} {D : va_G} {A : Nat → Prop} {cI cZ cJ cB : ClassId} {X : Nat → Nat} {O : Nat → Prop} {bnd mkr : Nat → Option Nat} {g : Nat → Nat → Int} {σ : zh} {s : St} {kp wk : Nat → Int}
set_option maxRecDepth 100000 in
set_option maxHeartbeats 4000000 in
theorem cX_makeInstance {p a : Nat} (hI : Inv s) (hx : xG cI cZ cJ cB X O bnd mkr g s (fun q => kpt s q - 1) wk σ) (hp : p < 36) (hb : bnd p = some a) (h5p : s 5 p = 3) (hm : s 23 0 < 100) (hk0 : kpt s p = 0) (vs : Nat → Int) (hvs : ∀ j : Nat, (j : Int) < s 8 p → g 1 (4 * p + j) = vs j) : zM l D vwCl A (ztys cI cZ cJ cB) (zF A X) y_X_makeInstance ws_X_makeInstance (zroom 1 0 0) [.ref (X 0), .ref a, iv ((4 * p : Nat) : Int)] σ (fun r σ' => r = some (iv (s 23 0)) ∧ ∃ (mkr' : Nat → Option Nat) (g' : Nat → Nat → Int), g' 1 = g 1 ∧ xG cI cZ cJ cB X O bnd mkr' g' (mk s p vs) (fun q => kpt (mk s p vs) q - 1) wk σ' ∧ xF O σ σ') := by
  refine zMet2 (zF_ok A X) (by decide) (Nat.le_of_ble_eq_true rfl) (fun K hKl C => ?_)
  obtain ⟨hO, hX, h1, h2, h3, h4, h5, hB, hBf, hbn, hmk, hvl, hwk, hkp, hk1, hk2, hk3⟩ := id hx
  have hmd := hI.md
  obtain ⟨kd, nd, con, sc, hsc, hOa, ha⟩ : ∃ (kd nd : Nat) (con sc : Int), sc = s 7 p ∧ O a ∧ σ a = some (ob 0 [.ref kd, iv ((p / 12 : Nat) : Int), iv ((p % 12 : Nat) : Int), iv con, iv sc, .ref nd, iv (kpt s p - 1), iv (wk p)]) := by
    rcases hbn p hp with z | ⟨b, kd, con, sc, sz, kf, zf, z1, z2, z3⟩
    · rw [hb] at z; cases z.1
    · rw [hb] at z1
      cases z1
      obtain ⟨y1, nd, ka, la, y2, -⟩ := z2
      rcases z3 with z3 | z3 | z3
      · have := z3.1; omega
      · have := z3.1; omega
      · exact ⟨kd, nd, con, sc, z3.2.2.1, y1, y2⟩
  have hscr := hI.sc p
  refine z_aload_n C d_X_makeInstance_0 rfl ?_
  refine z_get C in_X (hX) rfl 7 (by decide) tw_fl_X_143 rfl rfl d_X_makeInstance_1 ?_
  refine z_istore_n C d_X_makeInstance_4 (by decide) ?_
  refine z_aload_n C d_X_makeInstance_5 rfl ?_
  refine z_dup C rfl d_X_makeInstance_6 ?_
  refine z_get C in_X (hX) rfl 7 (by decide) tw_fl_X_143 rfl rfl d_X_makeInstance_7 ?_
  refine z_iconst C d_X_makeInstance_10 ?_
  refine z_iadd C d_X_makeInstance_11 ?_
  refine z_put C in_X t_X tk_X nm_X hX rfl 7 (by decide) tw_fl_X_143 rfl rfl (tk_X 7 (by decide)) rfl rfl (Nat.le_of_ble_eq_true rfl) d_X_makeInstance_12 ?_
  refine z_eq (σ' := (zput σ (X 0) (ob 2 [.ref (X 1), .ref (X 2), .ref (X 3), .ref (X 4), .ref (X 5), .ref (X 6), iv (s 1 0), iv (s 23 0 + 1), iv (s 15 0)]))) rfl rfl rfl ?_
  refine z_aload_n C d_X_makeInstance_15 rfl ?_
  have q0 : (zput σ (X 0) (ob 2 [.ref (X 1), .ref (X 2), .ref (X 3), .ref (X 4), .ref (X 5), .ref (X 6), iv (s 1 0), iv (s 23 0 + 1), iv (s 15 0)])) (X 0) = some (ob 2 [.ref (X 1), .ref (X 2), .ref (X 3), .ref (X 4), .ref (X 5), .ref (X 6), iv (s 1 0), iv (s 23 0 + 1), iv (s 15 0)]) := zput_s _ _ _
  have q3 : (zput σ (X 0) (ob 2 [.ref (X 1), .ref (X 2), .ref (X 3), .ref (X 4), .ref (X 5), .ref (X 6), iv (s 1 0), iv (s 23 0 + 1), iv (s 15 0)])) (X 3) = some (ra cB 100 mkr) := zput_o hX h3 (by intro h; cases h)
  have qa : (zput σ (X 0) (ob 2 [.ref (X 1), .ref (X 2), .ref (X 3), .ref (X 4), .ref (X 5), .ref (X 6), iv (s 1 0), iv (s 23 0 + 1), iv (s 15 0)])) a = some (ob 0 [.ref kd, iv ((p / 12 : Nat) : Int), iv ((p % 12 : Nat) : Int), iv con, iv sc, .ref nd, iv (kpt s p - 1), iv (wk p)]) := zput_o hX ha (by intro h; cases h)
  have q4 : (zput σ (X 0) (ob 2 [.ref (X 1), .ref (X 2), .ref (X 3), .ref (X 4), .ref (X 5), .ref (X 6), iv (s 1 0), iv (s 23 0 + 1), iv (s 15 0)])) (X 4) = some (la cJ 400 (g 0)) := zput_o hX h4 (by intro h; cases h)
  have q5 : (zput σ (X 0) (ob 2 [.ref (X 1), .ref (X 2), .ref (X 3), .ref (X 4), .ref (X 5), .ref (X 6), iv (s 1 0), iv (s 23 0 + 1), iv (s 15 0)])) (X 5) = some (la cJ 144 (g 1)) := zput_o hX h5 (by intro h; cases h)
  refine z_get C in_X (q0) rfl 2 (by decide) tw_fl_X_23 rfl rfl d_X_makeInstance_16 ?_
  refine z_iload_n C d_X_makeInstance_19 rfl ?_
  refine z_aload_n C d_X_makeInstance_20 rfl ?_
  refine z_aast C 3 rfl q3 qa rfl (s 23 0).toNat (by omega) (by omega) (by decide) d_X_makeInstance_21 ?_
  have u0 : (zput (zput σ (X 0) (ob 2 [.ref (X 1), .ref (X 2), .ref (X 3), .ref (X 4), .ref (X 5), .ref (X 6), iv (s 1 0), iv (s 23 0 + 1), iv (s 15 0)])) (X 3) (ra cB 100 (va_up mkr (s 23 0).toNat (some a)))) (X 0) = some (ob 2 [.ref (X 1), .ref (X 2), .ref (X 3), .ref (X 4), .ref (X 5), .ref (X 6), iv (s 1 0), iv (s 23 0 + 1), iv (s 15 0)]) := zput_o q3 q0 (by intro h; cases h)
  have ua : (zput (zput σ (X 0) (ob 2 [.ref (X 1), .ref (X 2), .ref (X 3), .ref (X 4), .ref (X 5), .ref (X 6), iv (s 1 0), iv (s 23 0 + 1), iv (s 15 0)])) (X 3) (ra cB 100 (va_up mkr (s 23 0).toNat (some a)))) a = some (ob 0 [.ref kd, iv ((p / 12 : Nat) : Int), iv ((p % 12 : Nat) : Int), iv con, iv sc, .ref nd, iv (kpt s p - 1), iv (wk p)]) := zput_o q3 qa (by intro h; cases h)
  have u4 : (zput (zput σ (X 0) (ob 2 [.ref (X 1), .ref (X 2), .ref (X 3), .ref (X 4), .ref (X 5), .ref (X 6), iv (s 1 0), iv (s 23 0 + 1), iv (s 15 0)])) (X 3) (ra cB 100 (va_up mkr (s 23 0).toNat (some a)))) (X 4) = some (la cJ 400 (g 0)) := zput_o q3 q4 (by intro h; cases h)
  have u5 : (zput (zput σ (X 0) (ob 2 [.ref (X 1), .ref (X 2), .ref (X 3), .ref (X 4), .ref (X 5), .ref (X 6), iv (s 1 0), iv (s 23 0 + 1), iv (s 15 0)])) (X 3) (ra cB 100 (va_up mkr (s 23 0).toNat (some a)))) (X 5) = some (la cJ 144 (g 1)) := zput_o q3 q5 (by intro h; cases h)
  refine z_aload_n C d_X_makeInstance_22 rfl ?_
  refine z_get C in_X (u0) rfl 4 (by decide) tw_fl_X_30 rfl rfl d_X_makeInstance_23 ?_
  refine z_iload_n C d_X_makeInstance_26 rfl ?_
  refine z_aload_n C d_X_makeInstance_27 rfl ?_
  refine z_get C in_X (u0) rfl 3 (by decide) tw_fl_X_26 rfl rfl d_X_makeInstance_28 ?_
  refine z_iload_n C d_X_makeInstance_31 rfl ?_
  refine z_iconst C d_X_makeInstance_32 ?_
  refine z_imul C d_X_makeInstance_33 ?_
  refine z_iconst C d_X_makeInstance_34 ?_
  refine z_copyl C 2 2 tw_ml_X_192 tw_na_acopy tw_st_acopy tw_in_S rfl rfl u5 u4 (4 * p) (4 * (s 23 0).toNat) 4 (by omega) (by omega) rfl (by omega) (by decide) (Nat.le_of_ble_eq_true rfl) d_X_makeInstance_35 ?_
  have wa : (zput (zput (zput σ (X 0) (ob 2 [.ref (X 1), .ref (X 2), .ref (X 3), .ref (X 4), .ref (X 5), .ref (X 6), iv (s 1 0), iv (s 23 0 + 1), iv (s 15 0)])) (X 3) (ra cB 100 (va_up mkr (s 23 0).toNat (some a)))) (X 4) (la cJ 400 (va_cpy (g 1) (g 0) (4 * p) (4 * (s 23 0).toNat) 4))) a = some (ob 0 [.ref kd, iv ((p / 12 : Nat) : Int), iv ((p % 12 : Nat) : Int), iv con, iv sc, .ref nd, iv (kpt s p - 1), iv (wk p)]) := zput_o u4 ua (by intro h; cases h)
  have hx3 := hx.mkn hI hp hb h5p hm vs hvs
  have hx3 : xG cI cZ cJ cB X O bnd (va_up mkr (s 23 0).toNat (some a)) (srow g 0 (va_cpy (g 1) (g 0) (4 * p) (4 * (s 23 0).toNat) 4)) (mk s p vs) (fun q => kpt s q - 1) wk (zput (zput (zput σ (X 0) (ob 2 [.ref (X 1), .ref (X 2), .ref (X 3), .ref (X 4), .ref (X 5), .ref (X 6), iv (s 1 0), iv (s 23 0 + 1), iv (s 15 0)])) (X 3) (ra cB 100 (va_up mkr (s 23 0).toNat (some a)))) (X 4) (la cJ 400 (va_cpy (g 1) (g 0) (4 * p) (4 * (s 23 0).toNat) 4))) := hx3
  have hf3 : xF O σ (zput (zput (zput σ (X 0) (ob 2 [.ref (X 1), .ref (X 2), .ref (X 3), .ref (X 4), .ref (X 5), .ref (X 6), iv (s 1 0), iv (s 23 0 + 1), iv (s 15 0)])) (X 3) (ra cB 100 (va_up mkr (s 23 0).toNat (some a)))) (X 4) (la cJ 400 (va_cpy (g 1) (g 0) (4 * p) (4 * (s 23 0).toNat) 4))) := (xF.off hO.1 hX (fun _ h => (by cases h)) (fun _ h => (by cases h)) (fun _ _ h => (by cases h))).tr ((xF.off hO.2.2.2.1 q3 (fun _ h => (by cases h)) (fun _ h => (by cases h)) (fun _ _ h => (by cases h))).tr (xF.off hO.2.2.2.2.1 u4 (fun _ h => (by cases h)) (fun _ h => (by cases h)) (fun _ _ h => (by cases h))))
  generalize (zput (zput (zput σ (X 0) (ob 2 [.ref (X 1), .ref (X 2), .ref (X 3), .ref (X 4), .ref (X 5), .ref (X 6), iv (s 1 0), iv (s 23 0 + 1), iv (s 15 0)])) (X 3) (ra cB 100 (va_up mkr (s 23 0).toNat (some a)))) (X 4) (la cJ 400 (va_cpy (g 1) (g 0) (4 * p) (4 * (s 23 0).toNat) 4))) = σ3 at wa hx3 hf3 ⊢
  refine z_aload_n C d_X_makeInstance_38 rfl ?_
  refine z_getN C in_B (wa) rfl 4 (by decide) nl_88 rfl rfl d_X_makeInstance_39 ?_
  refine z_if_eq C 50 (by omega) d_X_makeInstance_42 (by decide) (fun h42 => ?_) (fun h42 => ?_)
  · have ek := kpt_mk hI (p := p) vs hk0
    rw [if_pos (by omega)] at ek
    refine z_iload_n C d_X_makeInstance_50 rfl ?_
    exact z_iret C d_X_makeInstance_51 (by decide) (by decide) (⟨rfl, va_up mkr (s 23 0).toNat (some a), srow g 0 (va_cpy (g 1) (g 0) (4 * p) (4 * (s 23 0).toNat) 4), rfl, by rw [ek]; exact hx3, hf3⟩)
  · refine z_aload_n C d_X_makeInstance_45 rfl ?_
    refine z_iload_n C d_X_makeInstance_46 rfl ?_
    refine x_kept C hx3 hp hb wa (by omega) rfl hOa d_X_makeInstance_47 (fun σ4 hx4 hf4 => ?_)
    have ek := kpt_mk hI (p := p) vs hk0
    rw [if_neg (by omega)] at ek
    refine z_iload_n C d_X_makeInstance_50 rfl ?_
    exact z_iret C d_X_makeInstance_51 (by decide) (by decide) (⟨rfl, va_up mkr (s 23 0).toNat (some a), srow g 0 (va_cpy (g 1) (g 0) (4 * p) (4 * (s 23 0).toNat) 4), rfl, by rw [ek]; exact hx4, hf3.tr hf4⟩)
end XC3
end
section
/-! a pair in work is not made -/
def wkf (W : Nat → Bool) : Nat → Int := fun q => if W q = true then 1 else 0
theorem wkf_add (W : Nat → Bool) (p : Nat) : iup (wkf W) p 1 = wkf (wadd W p) := by
  funext q
  unfold wkf wadd
  by_cases e : q = p
  · subst e; rw [iup_s]; simp
  · rw [iup_n e]; simp [e]
theorem wkf_del {W : Nat → Bool} {p : Nat} (h : ¬ W p = true) : iup (wkf (wadd W p)) p 0 = wkf W := by
  funext q
  unfold wkf wadd
  by_cases e : q = p
  · subst e; rw [iup_s, if_neg h]
  · rw [iup_n e]; simp [e]
def kq (a b : St) (p : Nat) : Prop := a 11 p = b 11 p ∧ a 12 p = b 12 p
def gkq (g : St → Nat → Nat → Int × St) (p : Nat) : Prop := ∀ (s : St) (i k : Nat), Inv s → i < 3 → k < 12 → kq (g s i k).2 s p
theorem rneeds_kq {g : St → Nat → Nat → Int × St} {p q : Nat} (hg : gok g) (hk : gkq g p) (hq : q < 36) : ∀ (n j : Nat) (s : St) (vs : Nat → Int), Inv s → kq (rneeds g q n j s vs).2.1 s p
  | 0, _, s, vs, hs => ⟨rfl, rfl⟩
  | n + 1, j, s, vs, hs => by
    have hnk := hs.nk (4 * q + j)
    unfold rneeds
    by_cases c : s 10 (4 * q + j) = 1
    · rw [if_pos c]; exact rneeds_kq hg hk hq n (j + 1) s _ hs
    · rw [if_neg c]
      have h1 := hg s (q / 12) (s 9 (4 * q + j)).toNat hs (by omega) (by omega)
      have h2 := hk s (q / 12) (s 9 (4 * q + j)).toNat hs (by omega) (by omega)
      generalize g s (q / 12) (s 9 (4 * q + j)).toNat = r at h1 h2 ⊢
      by_cases c2 : r.1 < 0
      · rw [if_pos c2]; exact h2
      · rw [if_neg c2]
        have h3 := rneeds_kq hg hk hq n (j + 1) r.2 (iup vs j r.1) h1.1
        exact ⟨h3.1.trans h2.1, h3.2.trans h2.2⟩
theorem rgo_kq {g : St → Nat → Nat → Int × St} {p q : Nat} (hg : gok g) (hk : gkq g p) (hq : q < 36) (hne : q ≠ p) {s : St} (hs : Inv s) : kq (rgo g s q).2 s p := by
  unfold rgo
  by_cases c : s 5 q = 2
  · rw [if_pos c]
    have := hs.lk c
    exact hk s _ _ hs (by omega) (by omega)
  · rw [if_neg c]
    by_cases c2 : s 7 q = 2 ∧ s 15 0 = 0
    · rw [if_pos c2]; exact ⟨rfl, rfl⟩
    · rw [if_neg c2]
      have h3 := rneeds_kq hg hk hq (s 8 q).toNat 0 s (fun _ => 0) hs
      generalize rneeds g q (s 8 q).toNat 0 s (fun _ => 0) = r at h3 ⊢
      unfold rend
      by_cases c3 : r.1 < 0
      · rw [if_pos c3]; exact h3
      · rw [if_neg c3]
        by_cases c4 : r.2.1 23 0 = 100
        · rw [if_pos c4]; exact h3
        · rw [if_neg c4]
          have e11 : mk r.2.1 q r.2.2 11 p = r.2.1 11 p := by
            show (if r.2.1 7 q = 1 then iup (r.2.1 11) q (r.2.1 23 0 + 1) else r.2.1 11) p = _
            split
            · rw [iup_n (Ne.symm hne)]
            · rfl
          have e12 : mk r.2.1 q r.2.2 12 p = r.2.1 12 p := by
            show (if r.2.1 7 q = 2 then iup (r.2.1 12) q (r.2.1 23 0 + 1) else r.2.1 12) p = _
            split
            · rw [iup_n (Ne.symm hne)]
            · rfl
          exact ⟨e11.trans h3.1, e12.trans h3.2⟩
theorem rget_kq {p : Nat} : ∀ (d : Nat) (W : Nat → Bool), W p = true → gkq (rget d W) p
  | 0, _, _ => fun _ _ _ _ _ _ => ⟨rfl, rfl⟩
  | d + 1, W, hW => by
    intro s i k hs hi hk
    unfold rget
    by_cases c : sn s i k < 0
    · rw [if_pos c]; exact ⟨rfl, rfl⟩
    · rw [if_neg c]
      obtain ⟨q, hq, e, h0, -⟩ := hs.seen hi hk c
      rw [e, Int.toNat_natCast]
      by_cases c1 : s 5 q = 1
      · rw [if_pos c1]; exact ⟨rfl, rfl⟩
      · rw [if_neg c1]
        by_cases c2 : kpt s q ≠ 0
        · rw [if_pos c2]; exact ⟨rfl, rfl⟩
        · rw [if_neg c2]
          by_cases c3 : W q = true ∨ d = 0
          · rw [if_pos c3]; exact ⟨rfl, rfl⟩
          · rw [if_neg c3]
            refine rgo_kq (rget_ok d _) (rget_kq d (wadd W q) ?_) hq (fun z => c3 (Or.inl (by rw [z]; exact hW))) hs
            unfold wadd
            rw [hW, Bool.or_true]
theorem rget_at {s : St} {W : Nat → Bool} {d i k p : Nat} (c : ¬ sn s i k < 0) (e : sn s i k = (p : Int)) : rget (d + 1) W s i k = if s 5 p = 1 then (10000000000 + s 6 p, s) else if kpt s p ≠ 0 then (kpt s p - 1, s) else if W p = true ∨ d = 0 then (-3, s) else rgo (rget d (wadd W p)) s p := by
  show (if sn s i k < 0 then _ else _) = _
  rw [if_neg c, e, Int.toNat_natCast]
def rnw (d : Nat) (W : Nat → Bool) (s : St) (p : Nat) : Int × St := if s 7 p = 2 ∧ s 15 0 = 0 then (-4, s) else rend p (rneeds (rget d W) p (s 8 p).toNat 0 s (fun _ => 0))
end
section
def OBp (l : Launch) (D : va_G) (A : Nat → Prop) (cI cZ cJ cB : ClassId) (X : Nat → Nat) (O : Nat → Prop) (d : Nat) : Prop := ∀ (s : St) (W : Nat → Bool) (bnd mkr : Nat → Option Nat) (g : Nat → Nat → Int) (σ : zh) (i k : Nat), Inv s → xG cI cZ cJ cB X O bnd mkr g s (fun q => kpt s q - 1) (wkf W) σ → i < 3 → k < 12 → zM l D vwCl A (ztys cI cZ cJ cB) (zF A X) y_X_obtain ws_X_obtain (zroom (2 * d + 2) 0 0) [.ref (X 0), iv (i : Int), iv (k : Int), iv (37 - (d : Int))] σ (fun r σ' => r = some (jv (rget d W s i k).1) ∧ ∃ (mkr' : Nat → Option Nat) (g' : Nat → Nat → Int), (∀ q, W q = true → ∀ t, t < 4 → g' 1 (4 * q + t) = g 1 (4 * q + t)) ∧ xG cI cZ cJ cB X O bnd mkr' g' (rget d W s i k).2 (fun q => kpt (rget d W s i k).2 q - 1) (wkf W) σ' ∧ xF O σ σ')
section XC4
variable {l : Launch} {D : va_G} {A : Nat → Prop} {cI cZ cJ cB : ClassId} {X : Nat → Nat} {O : Nat → Prop}
set_option maxRecDepth 100000 in
set_option maxHeartbeats 4000000 in
theorem cX_obtainNew {bnd mkr : Nat → Option Nat} {g : Nat → Nat → Int} {σ : zh} {s : St} {W : Nat → Bool} {d : Nat} (hd36 : d ≤ 36) (hOB : OBp l D A cI cZ cJ cB X O d) {p a : Nat} (hI : Inv s) (hx : xG cI cZ cJ cB X O bnd mkr g s (fun q => kpt s q - 1) (wkf W) σ) (hp : p < 36) (hb : bnd p = some a) (h5p : s 5 p = 3) (hk0 : kpt s p = 0) (hW : W p = true) : zM l D vwCl A (ztys cI cZ cJ cB) (zF A X) y_X_obtainNew ws_X_obtainNew (zroom (2 * d + 3) 0 0) [.ref (X 0), .ref a, iv (36 - (d : Int))] σ (fun r σ' => r = some (jv (rnw d W s p).1) ∧ ∃ (mkr' : Nat → Option Nat) (g' : Nat → Nat → Int), (∀ q, W q = true → q ≠ p → ∀ t, t < 4 → g' 1 (4 * q + t) = g 1 (4 * q + t)) ∧ xG cI cZ cJ cB X O bnd mkr' g' (rnw d W s p).2 (fun q => kpt (rnw d W s p).2 q - 1) (wkf W) σ' ∧ xF O σ σ') := by
  refine zMet2 (zF_ok A X) (by decide) (Nat.le_of_ble_eq_true rfl) (fun K hKl C => ?_)
  obtain ⟨hO, hX, h1, h2, h3, h4, h5, hB, hBf, hbn, hmk, hvl, hwk, hkp, hk1, hk2, hk3⟩ := id hx
  obtain ⟨kd, nd, ka, la, con, sc, sz, kf, zf, hOa, ha, hsc, hsz, hkf, ⟨-, n1, n2, n3, n4, n5, n6⟩⟩ : ∃ (kd nd ka la : Nat) (con sc sz : Int) (kf zf : Nat → Int), O a ∧ σ a = some (ob 0 [.ref kd, iv ((p / 12 : Nat) : Int), iv ((p % 12 : Nat) : Int), iv con, iv sc, .ref nd, iv (kpt s p - 1), iv (wkf W p)]) ∧ sc = s 7 p ∧ sz = s 8 p ∧ (∀ j : Nat, (j : Int) < sz → kf j = s 9 (4 * p + j) ∧ zf j = s 10 (4 * p + j)) ∧ NDk cI cZ O σ nd ka la sz kf zf := by
    rcases hbn p hp with z | ⟨b, kd, con, sc, sz, kf, zf, z1, z2, z3⟩
    · rw [hb] at z; cases z.1
    · rw [hb] at z1
      cases z1
      obtain ⟨y1, nd, ka, la, y2, y3, -⟩ := z2
      rcases z3 with z3 | z3 | z3
      · have := z3.1; omega
      · have := z3.1; omega
      · exact ⟨kd, nd, ka, la, con, sc, sz, kf, zf, y1, y2, z3.2.2.1, z3.2.2.2.1, z3.2.2.2.2, y3⟩
  have hscr := hI.sc p
  have hnn := hI.nn p
  have hop := hI.op
  have loop : ∀ (n j : Nat) (u : St) (vs : Nat → Int) (mkr1 : Nat → Option Nat) (g1 : Nat → Nat → Int) (σ1 : zh), s 8 p = (j : Int) + n → Inv u → grow s u → xG cI cZ cJ cB X O bnd mkr1 g1 u (fun q => kpt u q - 1) (wkf W) σ1 → xF O σ σ1 → (∀ q, W q = true → q ≠ p → ∀ t, t < 4 → g1 1 (4 * q + t) = g 1 (4 * q + t)) → (∀ t, t < j → g1 1 (4 * p + t) = vs t) → (∀ t, 0 ≤ vs t ∧ vs t ≤ 1000000000000) → kq u s p → ∀ a6 a7 : Option Value, zJ K D vwCl A 8 (zQ K D vwCl A (fun r σ' => r = some (jv (rend p (rneeds (rget d W) p n j u vs)).1) ∧ ∃ (mkr' : Nat → Option Nat) (g' : Nat → Nat → Int), (∀ q, W q = true → q ≠ p → ∀ t, t < 4 → g' 1 (4 * q + t) = g 1 (4 * q + t)) ∧ xG cI cZ cJ cB X O bnd mkr' g' (rend p (rneeds (rget d W) p n j u vs)).2 (fun q => kpt (rend p (rneeds (rget d W) p n j u vs)).2 q - 1) (wkf W) σ' ∧ xF O σ σ') (zroom (2 * d + 3) 0 0).cells (zroom (2 * d + 3) 0 0).slots) 0 0 σ1 42 [some (.ref (X 0)), some (.ref a), some (iv (36 - (d : Int))), some (.ref nd), some (iv ((4 * p : Nat) : Int)), some (iv (j : Int)), a6, a7] [] := by
    intro n
    induction n with
    | zero =>
      intro j u vs mkr1 g1 σ1 hj hIu hgr hx1 hF1 hr1 hr2 hvr hkq a6 a7
      have stt := hgr.1
      have hmd := hIu.md
      have hku : kpt u p = 0 := by unfold kpt at hk0 ⊢; rw [hkq.1, hkq.2]; exact hk0
      obtain ⟨w6, w7, ha1⟩ := hF1.2.2.2 _ _ _ _ _ _ _ _ _ ha
      have hn1 := hF1.2.1 _ _ n1
      have hk1 := hF1.2.2.1 _ _ _ n2
      have hl1 := hF1.2.2.1 _ _ _ n3
      have hX1 := hx1.2.1
      refine z_iload C d_X_obtainNew_42 rfl ?_
      refine z_aload_n C d_X_obtainNew_44 rfl ?_
      refine z_getN C in_N (hn1) rfl 2 (by decide) nl_47 rfl rfl d_X_obtainNew_45 ?_
      refine z_icmp_ge C 127 (by omega) (by omega) d_X_obtainNew_48 (by decide) (fun h48 => ?_) (fun h48 => absurd h48 (by omega))
      refine z_aload_n C d_X_obtainNew_127 rfl ?_
      refine z_get C in_X (hX1) rfl 7 (by decide) tw_fl_X_143 rfl rfl d_X_obtainNew_128 ?_
      refine z_bipush C d_X_obtainNew_131 (by decide) ?_
      refine z_icmp_lt C 142 (by omega) (by omega) d_X_obtainNew_133 (by decide) (fun h133 => ?_) (fun h133 => ?_)
      · refine z_aload_n C d_X_obtainNew_142 rfl ?_
        refine z_aload_n C d_X_obtainNew_143 rfl ?_
        refine z_iload C d_X_obtainNew_144 rfl ?_
        refine z_callV C hKl (cX_makeInstance hIu hx1 hp hb (by rw [stt 5 rfl]; exact h5p) (by omega) hku vs (fun t ht => hr2 t (by rw [stt 8 rfl] at ht; omega))) (zgood (fun _ h => h) tw_co_X_makeInstance) rfl (hX1) rfl tw_ml_X_188 tw_im_X_makeInstance tw_se_X_makeInstance tw_in_X pd_X_makeInstance (by constructor <;> (simp only [zroom]; omega)) rfl (Nat.le_of_ble_eq_true rfl) ⟨Nat.le_of_eq rfl, Nat.le_of_eq rfl⟩ d_X_obtainNew_146 (fun r σ2 hq => ?_)
        obtain ⟨rfl, mkr2, g2, e2, hx2, hF2⟩ := hq
        refine z_i2l C (by omega) d_X_obtainNew_149 ?_
        exact z_lret C d_X_obtainNew_150 (Nat.le_of_eq rfl) (Nat.le_of_eq rfl) (by rw [show rend p (rneeds (rget d W) p 0 j u vs) = (u 23 0, mk u p vs) from by show (if (0 : Int) < 0 then _ else if u 23 0 = 100 then (-5, u) else (u 23 0, mk u p vs)) = _; rw [if_neg (by omega), if_neg (by omega)]]; exact ⟨rfl, mkr2, g2, fun q h1 h2 t ht => by rw [e2]; exact hr1 q h1 h2 t ht, hx2, hF1.tr hF2⟩)
      · refine z_ldc2 C (-5) tw_kl_X_186 d_X_obtainNew_136 ?_
        refine z_goto C 150 d_X_obtainNew_139 (by decide) ?_
        exact z_lret C d_X_obtainNew_150 (Nat.le_of_eq rfl) (Nat.le_of_eq rfl) (by rw [show rend p (rneeds (rget d W) p 0 j u vs) = (-5, u) from by show (if (0 : Int) < 0 then _ else if u 23 0 = 100 then (-5, u) else (u 23 0, mk u p vs)) = _; rw [if_neg (by omega), if_pos (by omega)]]; exact ⟨rfl, mkr1, g1, hr1, hx1, hF1⟩)
    | succ n ih =>
      intro j u vs mkr1 g1 σ1 hj hIu hgr hx1 hF1 hr1 hr2 hvr hkq a6 a7
      have stt := hgr.1
      obtain ⟨w6, w7, ha1⟩ := hF1.2.2.2 _ _ _ _ _ _ _ _ _ ha
      have hn1 := hF1.2.1 _ _ n1
      have hk1 := hF1.2.2.1 _ _ _ n2
      have hl1 := hF1.2.2.1 _ _ _ n3
      have hX1 := hx1.2.1
      have hkz := hkf j (by omega)
      have hkj := n5 j
      have hzj := n6 j
      have hz10 : zf j = u 10 (4 * p + j) := by rw [hkz.2, stt 10 rfl]
      have er : rneeds (rget d W) p (n + 1) j u vs = if u 10 (4 * p + j) = 1 then rneeds (rget d W) p n (j + 1) u (iup vs j (20000000000 + 16 * ((p / 12 : Nat) : Int) + u 9 (4 * p + j))) else if (rget d W u (p / 12) (u 9 (4 * p + j)).toNat).1 < 0 then ((rget d W u (p / 12) (u 9 (4 * p + j)).toNat).1, (rget d W u (p / 12) (u 9 (4 * p + j)).toNat).2, vs) else rneeds (rget d W) p n (j + 1) (rget d W u (p / 12) (u 9 (4 * p + j)).toNat).2 (iup vs j (rget d W u (p / 12) (u 9 (4 * p + j)).toNat).1) := rfl
      have tail : ∀ (v : Int) (u2 : St) (mkr2 : Nat → Option Nat) (g2 : Nat → Nat → Int) (σ2 : zh), -5 ≤ v → v ≤ 1000000000000 → (v < 0 → rneeds (rget d W) p (n + 1) j u vs = (v, u2, vs)) → (0 ≤ v → rneeds (rget d W) p (n + 1) j u vs = rneeds (rget d W) p n (j + 1) u2 (iup vs j v)) → Inv u2 → grow s u2 → xG cI cZ cJ cB X O bnd mkr2 g2 u2 (fun q => kpt u2 q - 1) (wkf W) σ2 → xF O σ σ2 → (∀ q, W q = true → q ≠ p → ∀ t, t < 4 → g2 1 (4 * q + t) = g 1 (4 * q + t)) → (∀ t, t < j → g2 1 (4 * p + t) = vs t) → kq u2 s p → ∀ a6 a7 : Option Value, zJ K D vwCl A 8 (zQ K D vwCl A (fun r σ' => r = some (jv (rend p (rneeds (rget d W) p (n + 1) j u vs)).1) ∧ ∃ (mkr' : Nat → Option Nat) (g' : Nat → Nat → Int), (∀ q, W q = true → q ≠ p → ∀ t, t < 4 → g' 1 (4 * q + t) = g 1 (4 * q + t)) ∧ xG cI cZ cJ cB X O bnd mkr' g' (rend p (rneeds (rget d W) p (n + 1) j u vs)).2 (fun q => kpt (rend p (rneeds (rget d W) p (n + 1) j u vs)).2 q - 1) (wkf W) σ' ∧ xF O σ σ') (zroom (2 * d + 3) 0 0).cells (zroom (2 * d + 3) 0 0).slots) 0 0 σ2 96 [some (.ref (X 0)), some (.ref a), some (iv (36 - (d : Int))), some (.ref nd), some (iv ((4 * p : Nat) : Int)), some (iv (j : Int)), a6, a7] [jv v] := by
        intro v u2 mkr2 g2 σ2 v1 v2 e1 e0 hI2 hG2 hx2 hF2 hq1 hq2 hk2 a6 a7
        refine z_lstore C d_X_obtainNew_96 (by decide) ?_
        refine z_lload C d_X_obtainNew_98 rfl ?_
        refine z_callS C hKl (cX_isError v (by omega)) (zgood (fun _ h => h) tw_co_X_isError) rfl tw_ml_X_154 tw_st_X_isError tw_in_X pd_X_isError (by constructor <;> (simp only [zroom]; omega)) rfl (Nat.le_of_ble_eq_true rfl) ⟨Nat.le_of_eq rfl, Nat.le_of_eq rfl⟩ d_X_obtainNew_100 (fun r σ hq => ?_)
        obtain ⟨rfl, b, rfl, hb2⟩ := hq
        refine z_if_eq C 109 (by omega) d_X_obtainNew_103 (by decide) (fun h103 => ?_) (fun h103 => ?_)
        · refine z_aload_n C d_X_obtainNew_109 rfl ?_
          refine z_get C in_X (hx2.2.1) rfl 4 (by decide) tw_fl_X_30 rfl rfl d_X_obtainNew_110 ?_
          refine z_iload C d_X_obtainNew_113 rfl ?_
          refine z_iload C d_X_obtainNew_115 rfl ?_
          refine z_iadd C d_X_obtainNew_117 ?_
          refine z_lload C d_X_obtainNew_118 rfl ?_
          refine x_gath C hx2 (4 * p + j) (by omega) (by omega) d_X_obtainNew_120 (fun σ3 hx3 hF3 => ?_)
          refine z_iinc C d_X_obtainNew_121 rfl (by decide) ?_
          refine z_goto C 42 d_X_obtainNew_124 (by decide) ?_
          rw [e0 (by omega)]
          have jj := ih (j + 1) u2 (iup vs j v) mkr2 (sup g2 1 (4 * p + j) v) σ3 (by omega) hI2 hG2 hx3 (hF2.tr hF3) (fun q h1 h2 t ht => by
            show iup (g2 1) (4 * p + j) v (4 * q + t) = _
            rw [iup_n (by omega)]
            exact hq1 q h1 h2 t ht) (fun t ht => by
            show iup (g2 1) (4 * p + j) v (4 * p + t) = _
            by_cases e : t = j
            · subst e; rw [iup_s, iup_s]
            · rw [iup_n (by omega), iup_n e]; exact hq2 t (by omega)) (fun t => by
            by_cases e : t = j
            · subst e; rw [iup_s]; omega
            · rw [iup_n e]; exact hvr t) hk2 (some (jv v)) none
          rw [show ((j + 1 : Nat) : Int) = (j : Int) + 1 from by omega] at jj
          exact jj
        · refine z_lload C d_X_obtainNew_106 rfl ?_
          exact z_lret C d_X_obtainNew_108 (Nat.le_of_eq rfl) (Nat.le_of_eq rfl) (by rw [e1 (by omega), show rend p (v, u2, vs) = (v, u2) from if_pos (by omega)]; exact ⟨rfl, mkr2, g2, hq1, hx2, hF2⟩)
      refine z_iload C d_X_obtainNew_42 rfl ?_
      refine z_aload_n C d_X_obtainNew_44 rfl ?_
      refine z_getN C in_N (hn1) rfl 2 (by decide) nl_47 rfl rfl d_X_obtainNew_45 ?_
      refine z_icmp_ge C 127 (by omega) (by omega) d_X_obtainNew_48 (by decide) (fun h48 => absurd h48 (by omega)) (fun h48 => ?_)
      refine z_aload_n C d_X_obtainNew_51 rfl ?_
      refine z_getN C in_N (hn1) rfl 1 (by decide) nl_111 rfl rfl d_X_obtainNew_52 ?_
      refine z_iload C d_X_obtainNew_55 rfl ?_
      refine z_zald C 1 rfl hl1 j rfl (by omega) (by decide) d_X_obtainNew_57 ?_
      refine z_if_eq C 78 (by omega) d_X_obtainNew_58 (by decide) (fun h58 => ?_) (fun h58 => ?_)
      · refine z_aload_n C d_X_obtainNew_78 rfl ?_
        refine z_aload_n C d_X_obtainNew_79 rfl ?_
        refine z_getN C in_B (ha1) rfl 1 (by decide) nl_115 rfl rfl d_X_obtainNew_80 ?_
        refine z_aload_n C d_X_obtainNew_83 rfl ?_
        refine z_getN C in_N (hn1) rfl 0 (by decide) nl_118 rfl rfl d_X_obtainNew_84 ?_
        refine z_iload C d_X_obtainNew_87 rfl ?_
        refine z_iald C 0 rfl hk1 j rfl (by omega) (by decide) d_X_obtainNew_89 ?_
        refine z_top (w := iv (((kf j).toNat : Nat) : Int)) (by rw [show kf j = (((kf j).toNat : Nat) : Int) from by omega, Int.toNat_natCast]) ?_
        refine z_iload_n C d_X_obtainNew_90 rfl ?_
        refine z_iconst C d_X_obtainNew_91 ?_
        refine z_iadd C d_X_obtainNew_92 ?_
        refine z_top (w := iv (37 - (d : Int))) (by rw [show 36 - (d : Int) + 1 = 37 - (d : Int) from by omega]) ?_
        refine z_callV C hKl (hOB u W bnd mkr1 g1 _ (p / 12) (kf j).toNat hIu hx1 (by omega) (by omega)) (zgood (fun _ h => h) tw_co_X_obtain) rfl (hX1) rfl tw_ml_X_150 tw_im_X_obtain tw_se_X_obtain tw_in_X pd_X_obtain (by constructor <;> (simp only [zroom]; omega)) rfl (Nat.le_of_ble_eq_true rfl) ⟨Nat.le_of_eq rfl, Nat.le_of_eq rfl⟩ d_X_obtainNew_93 (fun r σ2 hq => ?_)
        obtain ⟨rfl, mkr2, g2, hq1, hx2, hF2⟩ := hq
        have ekf : kf j = u 9 (4 * p + j) := by rw [hkz.1, stt 9 rfl]
        have ok := rget_ok d W u (p / 12) (kf j).toNat hIu (by omega) (by omega)
        have okq := rget_kq (p := p) d W hW u (p / 12) (kf j).toNat hIu (by omega) (by omega)
        rw [← ekf] at er
        generalize rget d W u (p / 12) (kf j).toNat = r at ok okq hx2 er ⊢
        obtain ⟨k1, k2, k3, k4⟩ := ok
        exact tail r.1 r.2 mkr2 g2 σ2 k3 k4 (fun z => by rw [er, if_neg (by omega), if_pos z]) (fun z => by rw [er, if_neg (by omega), if_neg (by omega)]) k1 (hgr.tr k2) hx2 (hF1.tr hF2) (fun q h1 h2 t ht => (hq1 q h1 t ht).trans (hr1 q h1 h2 t ht)) (fun t ht => (hq1 p hW t (by omega)).trans (hr2 t ht)) ⟨okq.1.trans hkq.1, okq.2.trans hkq.2⟩ _ _
      · refine z_aload_n C d_X_obtainNew_61 rfl ?_
        refine z_getN C in_B (ha1) rfl 1 (by decide) nl_115 rfl rfl d_X_obtainNew_62 ?_
        refine z_aload_n C d_X_obtainNew_65 rfl ?_
        refine z_getN C in_N (hn1) rfl 0 (by decide) nl_118 rfl rfl d_X_obtainNew_66 ?_
        refine z_iload C d_X_obtainNew_69 rfl ?_
        refine z_iald C 0 rfl hk1 j rfl (by omega) (by decide) d_X_obtainNew_71 ?_
        refine z_callS C hKl (cX_handleOf ((p / 12 : Nat) : Int) (kf j) (by omega) (by omega)) (zgood (fun _ h => h) tw_co_X_handleOf) rfl tw_ml_X_183 tw_st_X_handleOf tw_in_X pd_X_handleOf (by constructor <;> (simp only [zroom]; omega)) rfl (Nat.le_of_ble_eq_true rfl) ⟨Nat.le_of_eq rfl, Nat.le_of_eq rfl⟩ d_X_obtainNew_72 (fun r σ hq => ?_)
        obtain ⟨rfl, rfl⟩ := hq
        refine z_goto C 96 d_X_obtainNew_75 (by decide) ?_
        exact tail (20000000000 + 16 * ((p / 12 : Nat) : Int) + kf j) u mkr1 g1 _ (by omega) (by omega) (fun z => absurd z (by omega)) (fun _ => by rw [er, if_pos (by omega), hkz.1, stt 9 rfl]) hIu hgr hx1 hF1 hr1 hr2 hkq _ _
  have k19 : ¬ (s 7 p = 2 ∧ s 15 0 = 0) → zJ K D vwCl A 8 (zQ K D vwCl A (fun r σ' => r = some (jv (rnw d W s p).1) ∧ ∃ (mkr' : Nat → Option Nat) (g' : Nat → Nat → Int), (∀ q, W q = true → q ≠ p → ∀ t, t < 4 → g' 1 (4 * q + t) = g 1 (4 * q + t)) ∧ xG cI cZ cJ cB X O bnd mkr' g' (rnw d W s p).2 (fun q => kpt (rnw d W s p).2 q - 1) (wkf W) σ' ∧ xF O σ σ') (zroom (2 * d + 3) 0 0).cells (zroom (2 * d + 3) 0 0).slots) 0 0 σ 19 [some (.ref (X 0)), some (.ref a), some (iv (36 - (d : Int))), none, none, none, none, none] [] := by
    intro hno
    rw [show rnw d W s p = rend p (rneeds (rget d W) p (s 8 p).toNat 0 s (fun _ => 0)) from if_neg hno]
    refine z_aload_n C d_X_obtainNew_19 rfl ?_
    refine z_getN C in_B (ha) rfl 5 (by decide) nl_108 rfl rfl d_X_obtainNew_20 ?_
    refine z_astore_n C d_X_obtainNew_23 (by decide) ?_
    refine z_aload_n C d_X_obtainNew_24 rfl ?_
    refine z_getN C in_B (ha) rfl 1 (by decide) nl_115 rfl rfl d_X_obtainNew_25 ?_
    refine z_aload_n C d_X_obtainNew_28 rfl ?_
    refine z_getN C in_B (ha) rfl 2 (by decide) nl_121 rfl rfl d_X_obtainNew_29 ?_
    refine z_callS C hKl (cX_pairOf ((p / 12 : Nat) : Int) ((p % 12 : Nat) : Int)) (zgood (fun _ h => h) tw_co_X_pairOf) rfl tw_ml_X_58 tw_st_X_pairOf tw_in_X pd_X_pairOf (by constructor <;> (simp only [zroom]; omega)) rfl (Nat.le_of_ble_eq_true rfl) ⟨Nat.le_of_eq rfl, Nat.le_of_eq rfl⟩ d_X_obtainNew_32 (fun r σ hq => ?_)
    obtain ⟨rfl, rfl⟩ := hq
    refine z_iconst C d_X_obtainNew_35 ?_
    refine z_imul C d_X_obtainNew_36 ?_
    refine z_top (w := iv ((4 * p : Nat) : Int)) (by rw [show (((p / 12 : Nat) : Int) * 12 + ((p % 12 : Nat) : Int)) * 4 = ((4 * p : Nat) : Int) from by omega]) ?_
    refine z_istore C d_X_obtainNew_37 (by decide) ?_
    refine z_iconst C d_X_obtainNew_39 ?_
    refine z_istore C d_X_obtainNew_40 (by decide) ?_
    exact loop (s 8 p).toNat 0 s (fun _ => 0) mkr g _ (by omega) hI (grow.rf s) hx xF.rf (fun _ _ _ _ _ => rfl) (fun t ht => absurd ht (by omega)) (fun _ => by omega) ⟨rfl, rfl⟩ none none
  refine z_aload_n C d_X_obtainNew_0 rfl ?_
  refine z_getN C in_B (ha) rfl 4 (by decide) nl_88 rfl rfl d_X_obtainNew_1 ?_
  refine z_iconst C d_X_obtainNew_4 ?_
  refine z_icmp_ne C 19 (by omega) (by omega) d_X_obtainNew_5 (by decide) (fun h5 => ?_) (fun h5 => ?_)
  · exact k19 (by omega)
  · refine z_aload_n C d_X_obtainNew_8 rfl ?_
    refine z_get C in_X (hX) rfl 8 (by decide) tw_fl_X_80 rfl rfl d_X_obtainNew_9 ?_
    refine z_if_ne C 19 (by omega) d_X_obtainNew_12 (by decide) (fun h12 => ?_) (fun h12 => ?_)
    · exact k19 (by omega)
    · refine z_ldc2 C (-4) tw_kl_X_181 d_X_obtainNew_15 ?_
      exact z_lret C d_X_obtainNew_18 (Nat.le_of_eq rfl) (Nat.le_of_eq rfl) (by rw [show rnw d W s p = (-4, s) from if_pos (by omega)]; exact ⟨rfl, mkr, g, fun _ _ _ _ _ => rfl, hx, xF.rf⟩)
end XC4
end
section
section XC5
variable {l : Launch} {D : va_G} {A : Nat → Prop} {cI cZ cJ cB : ClassId} {X : Nat → Nat} {O : Nat → Prop}
set_option maxRecDepth 100000 in
set_option maxHeartbeats 8000000 in
theorem cX_obtain : ∀ d : Nat, d ≤ 37 → 0 < d → OBp l D A cI cZ cJ cB X O d := by
  intro d
  induction d with
  | zero => intro _ h; exact absurd h (by omega)
  | succ d ih =>
  intro hd _ s W bnd mkr g σ i k hI hx hi hk
  refine zMet2 (zF_ok A X) (by decide) (Nat.le_of_ble_eq_true rfl) (fun K hKl C => ?_)
  obtain ⟨hO, hX, h1, h2, h3, h4, h5, hB, hBf, hbn, hmk, hvl, hwk, hkp, hk1, hk2, hk3⟩ := id hx
  have hsr := sn_r hI hi hk
  have k122 : ∀ (r : Int × St) (p : Nat) (mkr2 : Nat → Option Nat) (g2 : Nat → Nat → Int) (σ2 : zh) (a kd : Nat) (con sc sz : Int), p < 36 → O a → bnd p = some a → ¬ W p = true → (∀ q, W q = true → ∀ t, t < 4 → g2 1 (4 * q + t) = g 1 (4 * q + t)) → xG cI cZ cJ cB X O bnd mkr2 g2 r.2 (fun q => kpt r.2 q - 1) (wkf (wadd W p)) σ2 → xF O σ σ2 → r = r → zJ K D vwCl A 7 (zQ K D vwCl A (fun r' σ' => r' = some (jv r.1) ∧ ∃ (mkr' : Nat → Option Nat) (g' : Nat → Nat → Int), (∀ q, W q = true → ∀ t, t < 4 → g' 1 (4 * q + t) = g 1 (4 * q + t)) ∧ xG cI cZ cJ cB X O bnd mkr' g' (r).2 (fun q => kpt (r).2 q - 1) (wkf W) σ' ∧ xF O σ σ') (zroom (2 * d + 4) 0 0).cells (zroom (2 * d + 4) 0 0).slots) 0 0 σ2 122 [some (.ref (X 0)), some (iv (i : Int)), some (iv (k : Int)), some (iv (36 - (d : Int))), some (.ref a), none, none] [jv r.1] := by
    intro r p mkr2 g2 σ2 a kd con sc sz hp36 hOa hbp hW hq1 hx2 hF2 _
    obtain ⟨kd2, nd2, ra2⟩ : ∃ (kd2 nd2 : Nat) , ∃ (c2 s2 : Int), σ2 a = some (ob 0 [.ref kd2, iv ((p / 12 : Nat) : Int), iv ((p % 12 : Nat) : Int), iv c2, iv s2, .ref nd2, iv (kpt r.2 p - 1), iv (wkf (wadd W p) p)]) := by
      rcases hx2.2.2.2.2.2.2.2.2.2.1 p hp36 with z | ⟨b, kd, con, sc, sz, kf, zf, z1, z2, z3⟩
      · rw [hbp] at z; cases z.1
      · rw [hbp] at z1
        cases z1
        obtain ⟨nd, ka, la, z4, -⟩ := z2.rec
        exact ⟨kd, nd, con, sc, z4⟩
    obtain ⟨c2, s2, ra2⟩ := ra2
    refine z_lstore C d_X_obtain_122 (by decide) ?_
    refine z_aload C d_X_obtain_124 rfl ?_
    refine z_iconst C d_X_obtain_126 ?_
    refine x_inw C hx2 hp36 hbp ra2 (Or.inl rfl) rfl hOa d_X_obtain_127 (fun σ3 hx3 hF3 => ?_)
    rw [wkf_del hW] at hx3
    refine z_lload C d_X_obtain_130 rfl ?_
    exact z_lret C d_X_obtain_132 (Nat.le_of_eq rfl) (Nat.le_of_eq rfl) (⟨rfl, mkr2, g2, hq1, hx3, hF2.tr hF3⟩)
  have hdep : (37 : Int) - ((d + 1 : Nat) : Int) = 36 - (d : Int) := by omega
  rw [hdep]
  refine z_aload_n C d_X_obtain_0 rfl ?_
  refine z_iload_n C d_X_obtain_1 rfl ?_
  refine z_iload_n C d_X_obtain_2 rfl ?_
  refine z_callV C hKl (cX_seenFrom i k hI hx hi hk) (zgood (fun _ h => h) tw_co_X_seenFrom) rfl (hX) rfl tw_ml_X_124 tw_im_X_seenFrom tw_se_X_seenFrom tw_in_X pd_X_seenFrom (by constructor <;> (simp only [zroom]; omega)) rfl (Nat.le_of_ble_eq_true rfl) ⟨Nat.le_of_eq rfl, Nat.le_of_eq rfl⟩ d_X_obtain_3 (fun r σ hp => ?_)
  obtain ⟨rfl, rfl⟩ := hp
  by_cases hsn : sn s i k < 0
  · rw [if_pos hsn, show va_rf none = Value.null from rfl]
    refine z_astoreN C d_X_obtain_6 (by decide) ?_
    refine z_aloadN C d_X_obtain_8 rfl ?_
    refine z_ifnonnullN C d_X_obtain_10 ?_
    refine z_ldc2 C (-2) tw_kl_X_162 d_X_obtain_13 ?_
    exact z_lret C d_X_obtain_16 (Nat.le_of_eq rfl) (Nat.le_of_eq rfl) (by rw [show rget (d + 1) W s i k = (-2, s) from if_pos hsn]; exact ⟨rfl, mkr, g, fun _ _ _ _ => rfl, hx, xF.rf⟩)
  · obtain ⟨p, a, kd, nd, ka, la, con, sc, sz, kf, zf, hp36, -, ep, hbp, hOa, ha, ⟨-, n1, n2, n3, n4, n5, n6⟩, -, hBK⟩ := xsee hI hx hi hk hsn
    have er := rget_at (W := W) (d := d) hsn ep
    have hOB : 0 < d → OBp l D A cI cZ cJ cB X O d := fun h => ih (by omega) h
    rw [if_neg hsn, ep, Int.toNat_natCast, hbp, show va_rf (some a) = Value.ref a from rfl]
    refine z_astore C d_X_obtain_6 (by decide) ?_
    refine z_aload C d_X_obtain_8 rfl ?_
    refine z_ifnonnull C 17 d_X_obtain_10 (by decide) ?_
    refine z_aload C d_X_obtain_17 rfl ?_
    refine z_getN C in_B (ha) rfl 0 (by decide) nl_164 rfl rfl d_X_obtain_19 ?_
    refine z_gets C (fun _ h => h.2.2.1) tw_fl_X_62 d_X_obtain_22 ?_
    refine z_acmp_ne C 39 d_X_obtain_25 (by decide) (fun h25 => ?_) (fun h25 => ?_)
    · have h51 : s 5 p ≠ 1 := by
        rcases hBK with z | z | z
        · exact absurd z.2.1 h25
        · have := z.1; omega
        · have := z.1; omega
      have hkp := hI.kp p
      have hmd := hI.md
      refine z_aload C d_X_obtain_39 rfl ?_
      refine z_getN C in_B (ha) rfl 6 (by decide) nl_91 rfl rfl d_X_obtain_41 ?_
      refine z_top (w := iv (kpt s p - 1)) rfl ?_
      refine z_iconst C d_X_obtain_44 ?_
      refine z_icmp_eq C 55 (by omega) (by omega) d_X_obtain_45 (by decide) (fun h45 => ?_) (fun h45 => ?_)
      · refine z_aload C d_X_obtain_55 rfl ?_
        refine z_getN C in_B (ha) rfl 7 (by decide) nl_172 rfl rfl d_X_obtain_57 ?_
        refine z_if_ne C 69 (by have := hwk p; omega) d_X_obtain_60 (by decide) (fun h60 => ?_) (fun h60 => ?_)
        · refine z_ldc2 C (-3) tw_kl_X_175 d_X_obtain_69 ?_
          exact z_lret C d_X_obtain_72 (Nat.le_of_eq rfl) (Nat.le_of_eq rfl) (by rw [er, if_neg h51, if_neg (by omega), if_pos (Or.inl (by apply Classical.byContradiction; intro z; exact h60 (if_neg z)))]; exact ⟨rfl, mkr, g, fun _ _ _ _ => rfl, hx, xF.rf⟩)
        · refine z_iload_n C d_X_obtain_63 rfl ?_
          refine z_bipush C d_X_obtain_64 (by decide) ?_
          refine z_icmp_lt C 73 (by omega) (by omega) d_X_obtain_66 (by decide) (fun h66 => ?_) (fun h66 => ?_)
          · have hW : ¬ W p = true := fun z => by
              have : wkf W p = 1 := if_pos z
              omega
            have er2 : rget (d + 1) W s i k = rgo (rget d (wadd W p)) s p := by rw [er, if_neg h51, if_neg (by omega), if_neg (fun z => z.elim hW (by omega))]
            have hWa : wadd W p p = true := by unfold wadd; simp
            have hWs : ∀ q, W q = true → wadd W p q = true := fun q h => by unfold wadd; rw [h, Bool.or_true]
            refine z_aload C d_X_obtain_73 rfl ?_
            refine z_iconst C d_X_obtain_75 ?_
            refine x_inw C hx hp36 hbp ha (Or.inr rfl) rfl hOa d_X_obtain_76 (fun σ1 hx1 hF1 => ?_)
            rw [wkf_add] at hx1
            obtain ⟨w6, w7, ha1⟩ := hF1.2.2.2 _ _ _ _ _ _ _ _ _ ha
            have hn1 := hF1.2.1 _ _ n1
            have hk1a := hF1.2.2.1 _ _ _ n2
            rw [er2]
            refine z_aload C d_X_obtain_79 rfl ?_
            refine z_getN C in_B (ha1) rfl 0 (by decide) nl_164 rfl rfl d_X_obtain_81 ?_
            refine z_gets C (fun _ h => h.2.2.2.1) tw_fl_X_71 d_X_obtain_84 ?_
            refine z_acmp_ne C 115 d_X_obtain_87 (by decide) (fun h87 => ?_) (fun h87 => ?_)
            · have h53 : s 5 p = 3 := by
                rcases hBK with z | z | z
                · exact absurd z.1 h51
                · exact absurd z.2.1 h87
                · exact z.1
              have eg : rgo (rget d (wadd W p)) s p = rnw d (wadd W p) s p := by
                unfold rgo rnw
                rw [if_neg (by omega)]
              refine z_aload_n C d_X_obtain_115 rfl ?_
              refine z_aload C d_X_obtain_116 rfl ?_
              refine z_iload_n C d_X_obtain_118 rfl ?_
              refine z_callV C hKl (cX_obtainNew (by omega) (hOB (by omega)) hI hx1 hp36 hbp h53 (by omega) hWa) (zgood (fun _ h => h) tw_co_X_obtainNew) rfl (hx1.2.1) rfl tw_ml_X_177 tw_im_X_obtainNew tw_se_X_obtainNew tw_in_X pd_X_obtainNew (by constructor <;> (simp only [zroom]; omega)) rfl (Nat.le_of_ble_eq_true rfl) ⟨Nat.le_of_eq rfl, Nat.le_of_eq rfl⟩ d_X_obtain_119 (fun r σ2 hq => ?_)
              obtain ⟨rfl, mkr2, g2, hq1, hx2, hF2⟩ := hq
              rw [← eg] at hx2 ⊢
              exact k122 _ _ mkr2 g2 σ2 a kd con sc sz hp36 hOa hbp hW (fun q h t ht => hq1 q (hWs q h) (fun z => hW (by rw [← z]; exact h)) t ht) hx2 (hF1.tr hF2) rfl
            · have h52 : s 5 p = 2 ∧ kf 0 = s 6 p := by
                rcases hBK with z | z | z
                · exact absurd z.1 h51
                · exact ⟨z.1, z.2.2.2.2⟩
                · exact absurd (h87.symm.trans z.2.1) hk3
              have hlk := hI.lk h52.1
              have eg : rgo (rget d (wadd W p)) s p = rget d (wadd W p) s (p / 12) (s 6 p).toNat := if_pos h52.1
              refine z_aload_n C d_X_obtain_90 rfl ?_
              refine z_aload C d_X_obtain_91 rfl ?_
              refine z_getN C in_B (ha1) rfl 1 (by decide) nl_115 rfl rfl d_X_obtain_93 ?_
              refine z_aload C d_X_obtain_96 rfl ?_
              refine z_getN C in_B (ha1) rfl 5 (by decide) nl_108 rfl rfl d_X_obtain_98 ?_
              refine z_getN C in_N (hn1) rfl 0 (by decide) nl_118 rfl rfl d_X_obtain_101 ?_
              refine z_iconst C d_X_obtain_104 ?_
              refine z_iald C 0 rfl hk1a 0 rfl (by omega) (by decide) d_X_obtain_105 ?_
              refine z_top (w := iv (((s 6 p).toNat : Nat) : Int)) (by rw [h52.2, show s 6 p = (((s 6 p).toNat : Nat) : Int) from by omega, Int.toNat_natCast]) ?_
              refine z_iload_n C d_X_obtain_106 rfl ?_
              refine z_iconst C d_X_obtain_107 ?_
              refine z_iadd C d_X_obtain_108 ?_
              refine z_top (w := iv (37 - (d : Int))) (by rw [show 36 - (d : Int) + 1 = 37 - (d : Int) from by omega]) ?_
              refine z_callV C hKl (hOB (by omega) s (wadd W p) bnd mkr g _ (p / 12) (s 6 p).toNat hI hx1 (by omega) (by omega)) (zgood (fun _ h => h) tw_co_X_obtain) rfl (hx1.2.1) rfl tw_ml_X_150 tw_im_X_obtain tw_se_X_obtain tw_in_X pd_X_obtain (by constructor <;> (simp only [zroom]; omega)) rfl (Nat.le_of_ble_eq_true rfl) ⟨Nat.le_of_eq rfl, Nat.le_of_eq rfl⟩ d_X_obtain_109 (fun r σ2 hq => ?_)
              obtain ⟨rfl, mkr2, g2, hq1, hx2, hF2⟩ := hq
              rw [← eg] at hx2 ⊢
              refine z_goto C 122 d_X_obtain_112 (by decide) ?_
              exact k122 _ _ mkr2 g2 σ2 a kd con sc sz hp36 hOa hbp hW (fun q h t ht => hq1 q (hWs q h) t ht) hx2 (hF1.tr hF2) rfl
          · refine z_ldc2 C (-3) tw_kl_X_175 d_X_obtain_69 ?_
            exact z_lret C d_X_obtain_72 (Nat.le_of_eq rfl) (Nat.le_of_eq rfl) (by rw [er, if_neg h51, if_neg (by omega), if_pos (Or.inr (by omega))]; exact ⟨rfl, mkr, g, fun _ _ _ _ => rfl, hx, xF.rf⟩)
      · refine z_aload C d_X_obtain_48 rfl ?_
        refine z_getN C in_B (ha) rfl 6 (by decide) nl_91 rfl rfl d_X_obtain_50 ?_
        refine z_top (w := iv (kpt s p - 1)) rfl ?_
        refine z_i2l C (by omega) d_X_obtain_53 ?_
        exact z_lret C d_X_obtain_54 (Nat.le_of_eq rfl) (Nat.le_of_eq rfl) (by rw [er, if_neg h51, if_pos (by omega)]; exact ⟨rfl, mkr, g, fun _ _ _ _ => rfl, hx, xF.rf⟩)
    · have h51 : s 5 p = 1 ∧ con = s 6 p := by
        rcases hBK with z | z | z
        · exact ⟨z.1, z.2.2.1⟩
        · exact absurd (h25.symm.trans z.2.1) hk1
        · exact absurd (h25.symm.trans z.2.1) hk2
      refine z_ldc2 C 10000000000 tw_kl_X_167 d_X_obtain_28 ?_
      refine z_aload C d_X_obtain_31 rfl ?_
      refine z_getN C in_B (ha) rfl 3 (by decide) nl_169 rfl rfl d_X_obtain_33 ?_
      refine z_i2l C (by have := hI.nu p; unfold r32 at this; omega) d_X_obtain_36 ?_
      refine z_ladd C d_X_obtain_37 ?_
      exact z_lret C d_X_obtain_38 (Nat.le_of_eq rfl) (Nat.le_of_eq rfl) (by rw [er, if_pos h51.1, h51.2]; exact ⟨rfl, mkr, g, fun _ _ _ _ => rfl, hx, xF.rf⟩)
end XC5
end
section
/-! what is kept is not made again -/
def gkk (g : St → Nat → Nat → Int × St) (p : Nat) : Prop := ∀ (s : St) (i k : Nat), Inv s → i < 3 → k < 12 → kpt s p ≠ 0 → kq (g s i k).2 s p
theorem kq.kpt {a b : St} {p : Nat} (h : kq a b p) : kpt a p = kpt b p := by
  show a 11 p + a 12 p = b 11 p + b 12 p
  rw [h.1, h.2]
theorem rneeds_kk {g : St → Nat → Nat → Int × St} {p q : Nat} (hg : gok g) (hk : gkk g p) (hq : q < 36) : ∀ (n j : Nat) (s : St) (vs : Nat → Int), Inv s → kpt s p ≠ 0 → kq (rneeds g q n j s vs).2.1 s p
  | 0, _, s, vs, hs, _ => ⟨rfl, rfl⟩
  | n + 1, j, s, vs, hs, h0 => by
    have hnk := hs.nk (4 * q + j)
    unfold rneeds
    by_cases c : s 10 (4 * q + j) = 1
    · rw [if_pos c]; exact rneeds_kk hg hk hq n (j + 1) s _ hs h0
    · rw [if_neg c]
      have h1 := hg s (q / 12) (s 9 (4 * q + j)).toNat hs (by omega) (by omega)
      have h2 := hk s (q / 12) (s 9 (4 * q + j)).toNat hs (by omega) (by omega) h0
      generalize g s (q / 12) (s 9 (4 * q + j)).toNat = r at h1 h2 ⊢
      by_cases c2 : r.1 < 0
      · rw [if_pos c2]; exact h2
      · rw [if_neg c2]
        have h3 := rneeds_kk hg hk hq n (j + 1) r.2 (iup vs j r.1) h1.1 (by rw [h2.kpt]; exact h0)
        exact ⟨h3.1.trans h2.1, h3.2.trans h2.2⟩
theorem rgo_kk {g : St → Nat → Nat → Int × St} {p q : Nat} (hg : gok g) (hk : gkk g p) (hq : q < 36) (hne : q ≠ p) {s : St} (hs : Inv s) (h0 : kpt s p ≠ 0) : kq (rgo g s q).2 s p := by
  unfold rgo
  by_cases c : s 5 q = 2
  · rw [if_pos c]
    have := hs.lk c
    exact hk s _ _ hs (by omega) (by omega) h0
  · rw [if_neg c]
    by_cases c2 : s 7 q = 2 ∧ s 15 0 = 0
    · rw [if_pos c2]; exact ⟨rfl, rfl⟩
    · rw [if_neg c2]
      have h3 := rneeds_kk hg hk hq (s 8 q).toNat 0 s (fun _ => 0) hs h0
      generalize rneeds g q (s 8 q).toNat 0 s (fun _ => 0) = r at h3 ⊢
      unfold rend
      by_cases c3 : r.1 < 0
      · rw [if_pos c3]; exact h3
      · rw [if_neg c3]
        by_cases c4 : r.2.1 23 0 = 100
        · rw [if_pos c4]; exact h3
        · rw [if_neg c4]
          have e11 : mk r.2.1 q r.2.2 11 p = r.2.1 11 p := by
            show (if r.2.1 7 q = 1 then iup (r.2.1 11) q (r.2.1 23 0 + 1) else r.2.1 11) p = _
            split
            · rw [iup_n (Ne.symm hne)]
            · rfl
          have e12 : mk r.2.1 q r.2.2 12 p = r.2.1 12 p := by
            show (if r.2.1 7 q = 2 then iup (r.2.1 12) q (r.2.1 23 0 + 1) else r.2.1 12) p = _
            split
            · rw [iup_n (Ne.symm hne)]
            · rfl
          exact ⟨e11.trans h3.1, e12.trans h3.2⟩
theorem rget_kk {p : Nat} : ∀ (d : Nat) (W : Nat → Bool), gkk (rget d W) p
  | 0, _ => fun _ _ _ _ _ _ _ => ⟨rfl, rfl⟩
  | d + 1, W => by
    intro s i k hs hi hk h0
    unfold rget
    by_cases c : sn s i k < 0
    · rw [if_pos c]; exact ⟨rfl, rfl⟩
    · rw [if_neg c]
      obtain ⟨q, hq, e, h5, -⟩ := hs.seen hi hk c
      rw [e, Int.toNat_natCast]
      by_cases c1 : s 5 q = 1
      · rw [if_pos c1]; exact ⟨rfl, rfl⟩
      · rw [if_neg c1]
        by_cases c2 : kpt s q ≠ 0
        · rw [if_pos c2]; exact ⟨rfl, rfl⟩
        · rw [if_neg c2]
          by_cases c3 : W q = true ∨ d = 0
          · rw [if_pos c3]; exact ⟨rfl, rfl⟩
          · rw [if_neg c3]
            exact rgo_kk (rget_ok d _) (rget_kk d (wadd W q)) hq (fun z => c2 (by rw [z]; exact h0)) hs h0
/-- kept from the number f on is kept no more, of the first n pairs -/
def kr (kp : Nat → Int) (f : Int) (n : Nat) : Nat → Int := fun q => if q < n ∧ f ≤ kp q then -1 else kp q
theorem kr_0 (kp : Nat → Int) (f : Int) : kr kp f 0 = kp := by funext q; unfold kr; rw [if_neg (by omega)]
theorem kr_keep {kp : Nat → Int} {f : Int} {n : Nat} (h : kr kp f n n < f) : kr kp f (n + 1) = kr kp f n := by
  have e : kr kp f n n = kp n := by unfold kr; rw [if_neg (by omega)]
  rw [e] at h
  funext q
  unfold kr
  by_cases c : q = n
  · subst c; rw [if_neg (by omega), if_neg (by omega)]
  · by_cases c2 : q < n ∧ f ≤ kp q
    · rw [if_pos c2, if_pos (by omega)]
    · rw [if_neg c2, if_neg (by omega)]
theorem kr_drop {kp : Nat → Int} {f : Int} {n : Nat} (h : f ≤ kr kp f n n) : iup (kr kp f n) n (-1) = kr kp f (n + 1) := by
  have e : kr kp f n n = kp n := by unfold kr; rw [if_neg (by omega)]
  rw [e] at h
  funext q
  by_cases c : q = n
  · subst c; rw [iup_s]; unfold kr; rw [if_pos (by omega)]
  · rw [iup_n c]
    unfold kr
    by_cases c2 : q < n ∧ f ≤ kp q
    · rw [if_pos c2, if_pos (by omega)]
    · rw [if_neg c2, if_neg (by omega)]
section XU
variable {cI cZ cJ cB : ClassId} {X : Nat → Nat} {O : Nat → Prop} {bnd mkr : Nat → Option Nat} {g : Nat → Nat → Int} {σ : zh} {s : St} {kp wk : Nat → Int}
theorem xG.kpc {kp' : Nat → Int} (hx : xG cI cZ cJ cB X O bnd mkr g s kp wk σ) (h : ∀ q, q < 36 → bnd q ≠ none → kp' q = kp q) (hr : ∀ p, -1 ≤ kp' p ∧ kp' p ≤ 200) : xG cI cZ cJ cB X O bnd mkr g s kp' wk σ := by
  obtain ⟨hO, hX, h1, h2, h3, h4, h5, hB, hBf, hbn, hmk, hvl, hwk, hkp, hk⟩ := hx
  refine ⟨hO, hX, h1, h2, h3, h4, h5, hB, hBf, fun p hp => ?_, hmk, hvl, hwk, hr, hk⟩
  rcases hbn p hp with z | ⟨a, kd, con, sc, sz, kf, zf, z1, z2, z3⟩
  · exact Or.inl z
  · exact Or.inr ⟨a, kd, con, sc, sz, kf, zf, z1, by rw [h p hp (by rw [z1]; simp)]; exact z2, z3⟩
theorem xG.sq2 {s' : St} (hx : xG cI cZ cJ cB X O bnd mkr g s kp wk σ) (e : ∀ f, f ≤ 10 ∨ f = 15 ∨ f = 23 → s' f = s f) (q2 : ∀ i : Nat, (i : Int) < s 23 0 → s' 16 i = s 16 i ∧ s' 17 i = s 17 i ∧ s' 18 i = s 18 i ∧ s' 19 i = s 19 i) (q3 : ∀ j : Nat, (j : Int) < 4 * s 23 0 → s' 20 j = s 20 j ∧ s' 21 j = s 21 j ∧ s' 22 j = s 22 j) : xG cI cZ cJ cB X O bnd mkr g s' kp wk σ := by
  refine (hx.sq (s' := srow (srow s' 11 (s 11)) 12 (s 12)) ⟨fun f hf => ?_, q2, q3⟩)
  by_cases c1 : f = 12
  · subst c1; rw [srow_s]
  · rw [srow_n c1]
    by_cases c2 : f = 11
    · subst c2; rw [srow_s]
    · rw [srow_n c2]
      simp only [core, Bool.or_eq_true, decide_eq_true_eq, beq_iff_eq] at hf
      exact e f (by omega)
end XU
end
section
section XC6
variable {l : Launch} {D : va_G} {A : Nat → Prop} {cI cZ cJ cB : ClassId} {X : Nat → Nat} {O : Nat → Prop} {bnd mkr : Nat → Option Nat} {g : Nat → Nat → Int} {σ : zh} {s : St} {kp wk : Nat → Int}
set_option maxRecDepth 100000 in
set_option maxHeartbeats 4000000 in
theorem cX_unmakeFrom (f : Int) (hI : Inv s) (hx : xG cI cZ cJ cB X O bnd mkr g s kp wk σ) (hf : 0 ≤ f ∧ f ≤ s 23 0) : zM l D vwCl A (ztys cI cZ cJ cB) (zF A X) y_X_unmakeFrom ws_X_unmakeFrom (zroom 0 0 0) [.ref (X 0), iv f] σ (fun r σ' => r = none ∧ xG cI cZ cJ cB X O bnd mkr g (sup s 23 0 f) (kr kp f 36) wk σ' ∧ xF O σ σ') := by
  refine zMet2 (zF_ok A X) (by decide) (Nat.le_of_ble_eq_true rfl) (fun K hKl C => ?_)
  obtain ⟨hO, hX, h1, h2, h3, h4, h5, hB, hBf, hbn, hmk, hvl, hwk, hkp, hk1, hk2, hk3⟩ := id hx
  have hmd := hI.md
  have loop : ∀ (n q : Nat) (σ1 : zh), q + n = 36 → xG cI cZ cJ cB X O bnd mkr g s (kr kp f q) wk σ1 → xF O σ σ1 → ∀ a5 : Option Value, zJ K D vwCl A 6 (zQ K D vwCl A (fun r σ' => r = none ∧ xG cI cZ cJ cB X O bnd mkr g (sup s 23 0 f) (kr kp f 36) wk σ' ∧ xF O σ σ') 0 0) 0 0 σ1 11 [some (.ref (X 0)), some (iv f), some (.ref (X 2)), some (iv 36), some (iv (q : Int)), a5] [] := by
    intro n
    induction n with
    | zero =>
      intro q σ1 hq hx1 hF1 a5
      have e : q = 36 := by omega
      subst e
      refine z_iload C d_X_unmakeFrom_11 rfl ?_
      refine z_iload_n C d_X_unmakeFrom_13 rfl ?_
      refine z_icmp_ge C 49 (by omega) (by omega) d_X_unmakeFrom_14 (by decide) (fun h14 => ?_) (fun h14 => absurd h14 (by omega))
      refine z_aload_n C d_X_unmakeFrom_49 rfl ?_
      refine z_iload_n C d_X_unmakeFrom_50 rfl ?_
      refine z_put C in_X t_X tk_X nm_X hx1.2.1 rfl 7 (by decide) tw_fl_X_143 rfl rfl (tk_X 7 (by decide)) rfl rfl (Nat.le_of_ble_eq_true rfl) d_X_unmakeFrom_51 ?_
      refine z_eq (σ' := zput σ1 (X 0) (ob 2 (xfs X (sup s 23 0 f)))) rfl rfl rfl ?_
      exact z_vret C d_X_unmakeFrom_54 (by decide) (by decide) (⟨rfl, hx1.o23 f hf.2, hF1.tr (xF.off hx1.1.1 hx1.2.1 (fun _ h => (by cases h)) (fun _ h => (by cases h)) (fun _ _ h => (by cases h)))⟩)
    | succ n ih =>
      intro q σ1 hq hx1 hF1 a5
      refine z_iload C d_X_unmakeFrom_11 rfl ?_
      refine z_iload_n C d_X_unmakeFrom_13 rfl ?_
      refine z_icmp_ge C 49 (by omega) (by omega) d_X_unmakeFrom_14 (by decide) (fun h14 => absurd h14 (by omega)) (fun h14 => ?_)
      refine z_aload_n C d_X_unmakeFrom_17 rfl ?_
      refine z_iload C d_X_unmakeFrom_18 rfl ?_
      refine z_aald C 3 rfl hx1.2.2.2.1 q rfl (by omega) (by decide) d_X_unmakeFrom_20 ?_
      rcases hq : bnd q with _ | a
      · rw [show va_rf none = Value.null from rfl]
        have hx2 : xG cI cZ cJ cB X O bnd mkr g s (kr kp f (q + 1)) wk σ1 := hx1.kpc (fun t ht hne => by
          unfold kr
          by_cases e : t = q
          · subst e; exact absurd hq hne
          · by_cases c2 : t < q ∧ f ≤ kp t
            · rw [if_pos c2, if_pos (by omega)]
            · rw [if_neg c2, if_neg (by omega)]) (fun t => by
          have := hkp t
          unfold kr
          split <;> omega)
        refine z_astoreN C d_X_unmakeFrom_21 (by decide) ?_
        refine z_aloadN C d_X_unmakeFrom_23 rfl ?_
        refine z_ifnullN C 43 d_X_unmakeFrom_25 (by decide) ?_
        refine z_iinc C d_X_unmakeFrom_43 rfl (by decide) ?_
        refine z_goto C 11 d_X_unmakeFrom_46 (by decide) ?_
        have j := ih (q + 1) σ1 (by omega) hx2 hF1 (some .null)
        rw [show ((q + 1 : Nat) : Int) = (q : Int) + 1 from by omega] at j
        exact j
      · rw [show va_rf (some a) = Value.ref a from rfl]
        obtain ⟨kd, nd, con, sc, hOa, ha⟩ : ∃ (kd nd : Nat) (con sc : Int), O a ∧ σ1 a = some (ob 0 [.ref kd, iv ((q / 12 : Nat) : Int), iv ((q % 12 : Nat) : Int), iv con, iv sc, .ref nd, iv (kr kp f q q), iv (wk q)]) := by
          rcases hx1.2.2.2.2.2.2.2.2.2.1 q (by omega) with z | ⟨b, kd, con, sc, sz, kf, zf, z1, z2, z3⟩
          · rw [hq] at z; cases z.1
          · rw [hq] at z1
            cases z1
            obtain ⟨y1, nd, ka, la, y2, -⟩ := z2
            exact ⟨kd, nd, con, sc, y1, y2⟩
        have hkq := hx1.2.2.2.2.2.2.2.2.2.2.2.2.2.1 q
        refine z_astore C d_X_unmakeFrom_21 (by decide) ?_
        refine z_aload C d_X_unmakeFrom_23 rfl ?_
        refine z_ifnull C d_X_unmakeFrom_25 ?_
        refine z_aload C d_X_unmakeFrom_28 rfl ?_
        refine z_getN C in_B (ha) rfl 6 (by decide) nl_91 rfl rfl d_X_unmakeFrom_30 ?_
        refine z_iload_n C d_X_unmakeFrom_33 rfl ?_
        refine z_icmp_lt C 43 (by omega) (by omega) d_X_unmakeFrom_34 (by decide) (fun h34 => ?_) (fun h34 => ?_)
        · refine z_iinc C d_X_unmakeFrom_43 rfl (by decide) ?_
          refine z_goto C 11 d_X_unmakeFrom_46 (by decide) ?_
          rw [← kr_keep h34] at hx1
          have j := ih (q + 1) σ1 (by omega) hx1 hF1 (some (.ref a))
          rw [show ((q + 1 : Nat) : Int) = (q : Int) + 1 from by omega] at j
          exact j
        · refine z_aload C d_X_unmakeFrom_37 rfl ?_
          refine z_iconst C d_X_unmakeFrom_39 ?_
          refine x_kept C hx1 (by omega) hq ha (by omega) rfl hOa d_X_unmakeFrom_40 (fun σ2 hx2 hF2 => ?_)
          rw [kr_drop h34] at hx2
          refine z_iinc C d_X_unmakeFrom_43 rfl (by decide) ?_
          refine z_goto C 11 d_X_unmakeFrom_46 (by decide) ?_
          have j := ih (q + 1) σ2 (by omega) hx2 (hF1.tr hF2) (some (.ref a))
          rw [show ((q + 1 : Nat) : Int) = (q : Int) + 1 from by omega] at j
          exact j
  refine z_aload_n C d_X_unmakeFrom_0 rfl ?_
  refine z_get C in_X (hX) rfl 1 (by decide) tw_fl_X_19 rfl rfl d_X_unmakeFrom_1 ?_
  refine z_astore_n C d_X_unmakeFrom_4 (by decide) ?_
  refine z_aload_n C d_X_unmakeFrom_5 rfl ?_
  refine z_alen C 3 rfl h2 36 rfl d_X_unmakeFrom_6 ?_
  refine z_istore_n C d_X_unmakeFrom_7 (by decide) ?_
  refine z_iconst C d_X_unmakeFrom_8 ?_
  refine z_istore C d_X_unmakeFrom_9 (by decide) ?_
  exact loop 36 0 σ (by omega) (by rw [kr_0]; exact hx) xF.rf none
end XC6
theorem xG.back {cI cZ cJ cB : ClassId} {X : Nat → Nat} {O : Nat → Prop} {bnd mkr : Nat → Option Nat} {g : Nat → Nat → Int} {σ : zh} {s : St} {wk : Nat → Int} (hI : Inv s) {d : Nat} {W : Nat → Bool} {i k : Nat} (hi : i < 3) (hk : k < 12) (hx : xG cI cZ cJ cB X O bnd mkr g (sup (rget d W s i k).2 23 0 (s 23 0)) (kr (fun q => kpt (rget d W s i k).2 q - 1) (s 23 0) 36) wk σ) : xG cI cZ cJ cB X O bnd mkr g s (fun q => kpt s q - 1) wk σ := by
  obtain ⟨o1, ⟨g1, g2, g3, g4, g5, g6, g7⟩, o3, o4⟩ := rget_ok d W s i k hI hi hk
  have kk := fun p => rget_kk (p := p) d W s i k hI hi hk
  generalize rget d W s i k = r at hx o1 g1 g2 g3 g4 g5 g6 g7 kk
  have hx2 := hx.kpc (kp' := (fun q => kpt s q - 1)) (fun q hq _ => by
    have a1 := hI.kp q
    have a2 := o1.kp q
    show kpt s q - 1 = (if q < 36 ∧ s 23 0 ≤ kpt r.2 q - 1 then -1 else kpt r.2 q - 1)
    by_cases c : kpt s q = 0
    · have h1 := g3 q
      have h2 := g4 q
      have b1 := hI.si q
      have b2 := hI.re q
      have b3 := o1.si q
      have b4 := o1.re q
      have cz : s 11 q + s 12 q = 0 := c
      have ce : kpt r.2 q = r.2 11 q + r.2 12 q := rfl
      by_cases c2 : q < 36 ∧ s 23 0 ≤ kpt r.2 q - 1
      · rw [if_pos c2]; omega
      · rw [if_neg c2]; omega
    · have e := (kk q c).kpt
      rw [if_neg (by omega)]
      omega) (fun p => by have := hI.kp p; have := hI.md; show -1 ≤ kpt s p - 1 ∧ kpt s p - 1 ≤ 200; omega)
  refine hx2.sq2 (fun f hf => ?_) (fun i' hi' => ?_) (fun j hj => ?_)
  · by_cases c : f = 23
    · subst c
      funext j
      show s 23 j = iup (r.2 23) 0 (s 23 0) j
      by_cases c2 : j = 0
      · subst c2; rw [iup_s]
      · rw [iup_n c2]; exact (g7 j c2).symm
    · rw [sup_n c]
      exact (g1 f (by
        simp only [dyn, Bool.or_eq_false_iff, beq_eq_false_iff_ne, Bool.and_eq_false_iff, decide_eq_false_iff_not]
        omega)).symm
  · have e : sup r.2 23 0 (s 23 0) 23 0 = s 23 0 := iup_s (r.2 23) 0 _
    have := g5 i' (by omega)
    exact ⟨this.1.symm, this.2.1.symm, this.2.2.1.symm, this.2.2.2.symm⟩
  · have e : sup r.2 23 0 (s 23 0) 23 0 = s 23 0 := iup_s (r.2 23) 0 _
    have := g6 j (by omega)
    exact ⟨this.1.symm, this.2.1.symm, this.2.2.symm⟩
section XC7
variable {l : Launch} {D : va_G} {A : Nat → Prop} {cI cZ cJ cB : ClassId} {X : Nat → Nat} {O : Nat → Prop} {bnd mkr : Nat → Option Nat} {g : Nat → Nat → Int} {σ : zh} {s : St} {kp wk : Nat → Int}
set_option maxRecDepth 100000 in
set_option maxHeartbeats 4000000 in
theorem cX_obtainFromOutside (i k : Nat) (hI : Inv s) (hx : xG cI cZ cJ cB X O bnd mkr g s (fun q => kpt s q - 1) (fun _ => 0) σ) (hi : i < 3) (hk : k < 12) : zM l D vwCl A (ztys cI cZ cJ cB) (zF A X) y_X_obtainFromOutside ws_X_obtainFromOutside (zroom 77 0 0) [.ref (X 0), iv (i : Int), iv (k : Int)] σ (fun r σ' => r = some (jv (sget s i k).1) ∧ ∃ (mkr' : Nat → Option Nat) (g' : Nat → Nat → Int), xG cI cZ cJ cB X O bnd mkr' g' (sget s i k).2 (fun q => kpt (sget s i k).2 q - 1) (fun _ => 0) σ' ∧ xF O σ σ') := by
  refine zMet2 (zF_ok A X) (by decide) (Nat.le_of_ble_eq_true rfl) (fun K hKl C => ?_)
  obtain ⟨hO, hX, h1, h2, h3, h4, h5, hB, hBf, hbn, hmk, hvl, hwk, hkp, hk1, hk2, hk3⟩ := id hx
  have hmd := hI.md
  refine z_aload_n C d_X_obtainFromOutside_0 rfl ?_
  refine z_get C in_X (hX) rfl 7 (by decide) tw_fl_X_143 rfl rfl d_X_obtainFromOutside_1 ?_
  refine z_istore_n C d_X_obtainFromOutside_4 (by decide) ?_
  refine z_aload_n C d_X_obtainFromOutside_5 rfl ?_
  refine z_iload_n C d_X_obtainFromOutside_6 rfl ?_
  refine z_iload_n C d_X_obtainFromOutside_7 rfl ?_
  refine z_iconst C d_X_obtainFromOutside_8 ?_
  refine z_callV C hKl (cX_obtain 37 (by omega) (by omega) s (fun _ => false) bnd mkr g σ i k hI hx hi hk) (zgood (fun _ h => h) tw_co_X_obtain) rfl (hX) rfl tw_ml_X_150 tw_im_X_obtain tw_se_X_obtain tw_in_X pd_X_obtain (by decide) rfl (Nat.le_of_ble_eq_true rfl) (by decide) d_X_obtainFromOutside_9 (fun r σ1 hq => ?_)
  obtain ⟨rfl, mkr1, g1, -, hx1, hF1⟩ := hq
  have hx1 : xG cI cZ cJ cB X O bnd mkr1 g1 (rget 37 (fun _ => false) s i k).2 (fun q => kpt (rget 37 (fun _ => false) s i k).2 q - 1) (fun _ => 0) σ1 := hx1
  obtain ⟨o1, o2, o3, o4⟩ := rget_ok 37 (fun _ => false) s i k hI hi hk
  refine z_lstore C d_X_obtainFromOutside_12 (by decide) ?_
  refine z_lload C d_X_obtainFromOutside_14 rfl ?_
  refine z_callS C hKl (cX_isError (rget 37 (fun _ => false) s i k).1 (by omega)) (zgood (fun _ h => h) tw_co_X_isError) rfl tw_ml_X_154 tw_st_X_isError tw_in_X pd_X_isError (by decide) rfl (Nat.le_of_ble_eq_true rfl) (by decide) d_X_obtainFromOutside_16 (fun r σ hq => ?_)
  obtain ⟨rfl, b, rfl, hb⟩ := hq
  refine z_if_eq C 27 (by omega) d_X_obtainFromOutside_19 (by decide) (fun h19 => ?_) (fun h19 => ?_)
  · refine z_lload C d_X_obtainFromOutside_27 rfl ?_
    exact z_lret C d_X_obtainFromOutside_29 (by decide) (by decide) (by rw [show sget s i k = rget 37 (fun _ => false) s i k from if_neg (by omega)]; exact ⟨rfl, mkr1, g1, hx1, hF1⟩)
  · refine z_aload_n C d_X_obtainFromOutside_22 rfl ?_
    refine z_iload_n C d_X_obtainFromOutside_23 rfl ?_
    refine z_callV C hKl (cX_unmakeFrom (s 23 0) o1 hx1 ⟨hmd.1, o2.2.1⟩) (zgood (fun _ h => h) tw_co_X_unmakeFrom) rfl (hx1.2.1) rfl tw_ml_X_158 tw_im_X_unmakeFrom tw_se_X_unmakeFrom tw_in_X pd_X_unmakeFrom (by decide) rfl (Nat.le_of_ble_eq_true rfl) (by decide) d_X_obtainFromOutside_24 (fun r σ2 hq => ?_)
    obtain ⟨rfl, hx2, hF2⟩ := hq
    have hx2 := hx2.back hI hi hk
    refine z_lload C d_X_obtainFromOutside_27 rfl ?_
    exact z_lret C d_X_obtainFromOutside_29 (by decide) (by decide) (by rw [show sget s i k = ((rget 37 (fun _ => false) s i k).1, s) from if_pos (by omega)]; exact ⟨rfl, mkr1, g1, hx2, hF1.tr hF2⟩)
set_option maxRecDepth 100000 in
set_option maxHeartbeats 4000000 in
theorem cX_wouldFail (i k : Nat) (hI : Inv s) (hx : xG cI cZ cJ cB X O bnd mkr g s (fun q => kpt s q - 1) (fun _ => 0) σ) (hi : i < 3) (hk : k < 12) : zM l D vwCl A (ztys cI cZ cJ cB) (zF A X) y_X_wouldFail ws_X_wouldFail (zroom 77 0 0) [.ref (X 0), iv (i : Int), iv (k : Int)] σ (fun r σ' => ∃ b : Int, r = some (iv b) ∧ ((b = 1 ∧ (rget 37 (fun _ => false) s i k).1 < 0) ∨ (b = 0 ∧ 0 ≤ (rget 37 (fun _ => false) s i k).1)) ∧ ∃ (mkr' : Nat → Option Nat) (g' : Nat → Nat → Int), xG cI cZ cJ cB X O bnd mkr' g' s (fun q => kpt s q - 1) (fun _ => 0) σ' ∧ xF O σ σ') := by
  refine zMet2 (zF_ok A X) (by decide) (Nat.le_of_ble_eq_true rfl) (fun K hKl C => ?_)
  obtain ⟨hO, hX, h1, h2, h3, h4, h5, hB, hBf, hbn, hmk, hvl, hwk, hkp, hk1, hk2, hk3⟩ := id hx
  have hmd := hI.md
  refine z_aload_n C d_X_wouldFail_0 rfl ?_
  refine z_get C in_X (hX) rfl 7 (by decide) tw_fl_X_143 rfl rfl d_X_wouldFail_1 ?_
  refine z_istore_n C d_X_wouldFail_4 (by decide) ?_
  refine z_aload_n C d_X_wouldFail_5 rfl ?_
  refine z_iload_n C d_X_wouldFail_6 rfl ?_
  refine z_iload_n C d_X_wouldFail_7 rfl ?_
  refine z_iconst C d_X_wouldFail_8 ?_
  refine z_callV C hKl (cX_obtain 37 (by omega) (by omega) s (fun _ => false) bnd mkr g σ i k hI hx hi hk) (zgood (fun _ h => h) tw_co_X_obtain) rfl (hX) rfl tw_ml_X_150 tw_im_X_obtain tw_se_X_obtain tw_in_X pd_X_obtain (by decide) rfl (Nat.le_of_ble_eq_true rfl) (by decide) d_X_wouldFail_9 (fun r σ1 hq => ?_)
  obtain ⟨rfl, mkr1, g1, -, hx1, hF1⟩ := hq
  have hx1 : xG cI cZ cJ cB X O bnd mkr1 g1 (rget 37 (fun _ => false) s i k).2 (fun q => kpt (rget 37 (fun _ => false) s i k).2 q - 1) (fun _ => 0) σ1 := hx1
  obtain ⟨o1, o2, o3, o4⟩ := rget_ok 37 (fun _ => false) s i k hI hi hk
  refine z_lstore C d_X_wouldFail_12 (by decide) ?_
  refine z_aload_n C d_X_wouldFail_14 rfl ?_
  refine z_iload_n C d_X_wouldFail_15 rfl ?_
  refine z_callV C hKl (cX_unmakeFrom (s 23 0) o1 hx1 ⟨hmd.1, o2.2.1⟩) (zgood (fun _ h => h) tw_co_X_unmakeFrom) rfl (hx1.2.1) rfl tw_ml_X_158 tw_im_X_unmakeFrom tw_se_X_unmakeFrom tw_in_X pd_X_unmakeFrom (by decide) rfl (Nat.le_of_ble_eq_true rfl) (by decide) d_X_wouldFail_16 (fun r σ2 hq => ?_)
  obtain ⟨rfl, hx2, hF2⟩ := hq
  have hx2 := hx2.back hI hi hk
  refine z_lload C d_X_wouldFail_19 rfl ?_
  refine z_callS C hKl (cX_isError (rget 37 (fun _ => false) s i k).1 (by omega)) (zgood (fun _ h => h) tw_co_X_isError) rfl tw_ml_X_154 tw_st_X_isError tw_in_X pd_X_isError (by decide) rfl (Nat.le_of_ble_eq_true rfl) (by decide) d_X_wouldFail_21 (fun r σ hq => ?_)
  obtain ⟨rfl, b, rfl, hb⟩ := hq
  exact z_zret C d_X_wouldFail_24 (by decide) (by decide) (by omega) (⟨b, rfl, hb, mkr1, g1, hx2, hF1.tr hF2⟩)
set_option maxRecDepth 100000 in
set_option maxHeartbeats 4000000 in
theorem cX_get (i k : Int) (hI : Inv s) (hx : xG cI cZ cJ cB X O bnd mkr g s (fun q => kpt s q - 1) (fun _ => 0) σ) (ri : -2147483648 ≤ i ∧ i ≤ 2147483647) (rk : -2147483648 ≤ k ∧ k ≤ 2147483647) : zM l D vwCl A (ztys cI cZ cJ cB) (zF A X) y_X_get ws_X_get (zroom 78 0 0) [.ref (X 0), iv i, iv k] σ (fun r σ' => r = some (jv (sp_get s i k).1) ∧ ∃ (mkr' : Nat → Option Nat) (g' : Nat → Nat → Int), xG cI cZ cJ cB X O bnd mkr' g' (sp_get s i k).2 (fun q => kpt (sp_get s i k).2 q - 1) (fun _ => 0) σ' ∧ xF O σ σ') := by
  refine zMet2 (zF_ok A X) (by decide) (Nat.le_of_ble_eq_true rfl) (fun K hKl C => ?_)
  obtain ⟨hO, hX, h1, h2, h3, h4, h5, hB, hBf, hbn, hmk, hvl, hwk, hkp, hk1, hk2, hk3⟩ := id hx
  have hinj := hI.inj
  refine z_aload_n C d_X_get_0 rfl ?_
  refine z_iload_n C d_X_get_1 rfl ?_
  refine z_iload_n C d_X_get_2 rfl ?_
  refine z_callV C hKl (cX_isPair i k hI hx ri rk) (zgood (fun _ h => h) tw_co_X_isPair) rfl (hX) rfl tw_ml_X_77 tw_im_X_isPair tw_se_X_isPair tw_in_X pd_X_isPair (by decide) rfl (Nat.le_of_ble_eq_true rfl) (by decide) d_X_get_3 (fun r σ hp => ?_)
  obtain ⟨rfl, b, rfl, hb⟩ := hp
  refine z_if_ne C 13 (by omega) d_X_get_6 (by decide) (fun h6 => ?_) (fun h6 => ?_)
  · obtain ⟨x, rfl⟩ := Int.eq_ofNat_of_zero_le (show 0 ≤ i by omega)
    obtain ⟨y, rfl⟩ := Int.eq_ofNat_of_zero_le (show 0 ≤ k by omega)
    rw [show sp_get s x y = sget s x y from if_neg (by omega)]
    refine z_aload_n C d_X_get_13 rfl ?_
    refine z_iload_n C d_X_get_14 rfl ?_
    refine z_iload_n C d_X_get_15 rfl ?_
    refine z_callV C hKl (cX_obtainFromOutside x y hI hx (by omega) (by omega)) (zgood (fun _ h => h) tw_co_X_obtainFromOutside) rfl (hX) rfl tw_ml_X_96 tw_im_X_obtainFromOutside tw_se_X_obtainFromOutside tw_in_X pd_X_obtainFromOutside (by decide) rfl (Nat.le_of_ble_eq_true rfl) (by decide) d_X_get_16 (fun r σ1 hq => ?_)
    obtain ⟨rfl, hq⟩ := hq
    exact z_lret C d_X_get_19 (by decide) (by decide) (⟨rfl, hq⟩)
  · refine z_ldc2 C (-1) tw_kl_X_94 d_X_get_9 ?_
    exact z_lret C d_X_get_12 (by decide) (by decide) (by rw [show sp_get s i k = (-1, s) from if_pos (by omega)]; exact ⟨rfl, mkr, g, hx, xF.rf⟩)
set_option maxRecDepth 100000 in
set_option maxHeartbeats 4000000 in
theorem cX_ask (i n : Int) (hI : Inv s) (hx : xG cI cZ cJ cB X O bnd mkr g s (fun q => kpt s q - 1) (fun _ => 0) σ) (ri : -2147483648 ≤ i ∧ i ≤ 2147483647) (rn : -2147483648 ≤ n ∧ n ≤ 2147483647) : zM l D vwCl A (ztys cI cZ cJ cB) (zF A X) y_X_ask ws_X_ask (zroom 78 0 0) [.ref (X 0), iv i, iv n] σ (fun r σ' => r = some (jv (sp_ask s i n).1) ∧ ∃ (mkr' : Nat → Option Nat) (g' : Nat → Nat → Int), xG cI cZ cJ cB X O bnd mkr' g' (sp_ask s i n).2 (fun q => kpt (sp_ask s i n).2 q - 1) (fun _ => 0) σ' ∧ xF O σ σ') := by
  refine zMet2 (zF_ok A X) (by decide) (Nat.le_of_ble_eq_true rfl) (fun K hKl C => ?_)
  obtain ⟨hO, hX, h1, h2, h3, h4, h5, hB, hBf, hbn, hmk, hvl, hwk, hkp, hk1, hk2, hk3⟩ := id hx
  have hmd := hI.md
  refine z_aload_n C d_X_ask_0 rfl ?_
  refine z_iload_n C d_X_ask_1 rfl ?_
  refine z_callV C hKl (cX_makerOf i hI hx ri) (zgood (fun _ h => h) tw_co_X_makerOf) rfl (hX) rfl tw_ml_X_100 tw_im_X_makerOf tw_se_X_makerOf tw_in_X pd_X_makerOf (by decide) rfl (Nat.le_of_ble_eq_true rfl) (by decide) d_X_ask_2 (fun r σ hp => ?_)
  obtain ⟨rfl, rfl⟩ := hp
  by_cases hbad : i < 0 ∨ s 23 0 ≤ i
  · rw [if_pos hbad, show va_rf none = Value.null from rfl]
    refine z_astore_nN C d_X_ask_5 (by decide) ?_
    refine z_aload_nN C d_X_ask_6 rfl ?_
    refine z_ifnullN C 18 d_X_ask_7 (by decide) ?_
    refine z_ldc2 C (-1) tw_kl_X_94 d_X_ask_18 ?_
    exact z_lret C d_X_ask_21 (by decide) (by decide) (by rw [show sp_ask s i n = (-1, s) from if_pos (by omega)]; exact ⟨rfl, mkr, g, hx, xF.rf⟩)
  · obtain ⟨x, rfl⟩ := Int.eq_ofNat_of_zero_le (show 0 ≤ i by omega)
    obtain ⟨a, kd, con, kept, iw, kf, zf, m1, ⟨m2, nd, ka, la, m3, m4, m5⟩, m6⟩ := hmk x (by omega)
    obtain ⟨-, n1, n2, n3, n4, n5, n6⟩ := m4
    rw [if_neg hbad, Int.toNat_natCast, m1, show va_rf (some a) = Value.ref a from rfl]
    have hin := hI.inn x
    refine z_astore_n C d_X_ask_5 (by decide) ?_
    refine z_aload_n C d_X_ask_6 rfl ?_
    refine z_ifnull C d_X_ask_7 ?_
    refine z_aload_n C d_X_ask_10 rfl ?_
    refine z_iload_n C d_X_ask_11 rfl ?_
    refine z_callS C hKl (cX_hasNeed n m3 n1 n4 rn) (zgood (fun _ h => h) tw_co_X_hasNeed) rfl tw_ml_X_104 tw_st_X_hasNeed tw_in_X pd_X_hasNeed (by decide) rfl (Nat.le_of_ble_eq_true rfl) (by decide) d_X_ask_12 (fun r σ hp => ?_)
    obtain ⟨rfl, b, rfl, hb⟩ := hp
    refine z_if_ne C 22 (by omega) d_X_ask_15 (by decide) (fun h15 => ?_) (fun h15 => ?_)
    · have hkz := m6 n.toNat (by omega)
      have hk5 := n5 n.toNat
      have hz6 := n6 n.toNat
      have hij := hI.ij x
      have ea : sp_ask s x n = if s 21 (4 * x + n.toNat) = 1 then sget s (s 17 x).toNat (s 20 (4 * x + n.toNat)).toNat else (s 22 (4 * x + n.toNat), s) := by
        unfold sp_ask
        rw [Int.toNat_natCast, if_neg (by omega)]
      refine z_aload_n C d_X_ask_22 rfl ?_
      refine z_getN C in_B (m3) rfl 5 (by decide) nl_108 rfl rfl d_X_ask_23 ?_
      refine z_getN C in_N (n1) rfl 1 (by decide) nl_111 rfl rfl d_X_ask_26 ?_
      refine z_iload_n C d_X_ask_29 rfl ?_
      refine z_zald C 1 rfl n3 n.toNat (by omega) (by omega) (by decide) d_X_ask_30 ?_
      refine z_if_eq C 52 (by omega) d_X_ask_31 (by decide) (fun h31 => ?_) (fun h31 => ?_)
      · refine z_aload_n C d_X_ask_52 rfl ?_
        refine z_get C in_X (hX) rfl 3 (by decide) tw_fl_X_26 rfl rfl d_X_ask_53 ?_
        refine z_iload_n C d_X_ask_56 rfl ?_
        refine z_iconst C d_X_ask_57 ?_
        refine z_imul C d_X_ask_58 ?_
        refine z_iload_n C d_X_ask_59 rfl ?_
        refine z_iadd C d_X_ask_60 ?_
        refine z_lald C 2 rfl h4 (4 * x + n.toNat) (by omega) (by omega) (by decide) d_X_ask_61 ?_
        exact z_lret C d_X_ask_62 (by decide) (by decide) (by rw [ea, if_neg (by omega), hvl x n.toNat (by omega) (by omega)]; exact ⟨rfl, mkr, g, hx, xF.rf⟩)
      · refine z_aload_n C d_X_ask_34 rfl ?_
        refine z_aload_n C d_X_ask_35 rfl ?_
        refine z_getN C in_B (m3) rfl 1 (by decide) nl_115 rfl rfl d_X_ask_36 ?_
        refine z_top (w := iv (((s 17 x).toNat : Nat) : Int)) (by rw [show s 17 x = (((s 17 x).toNat : Nat) : Int) from by omega, Int.toNat_natCast]) ?_
        refine z_aload_n C d_X_ask_39 rfl ?_
        refine z_getN C in_B (m3) rfl 5 (by decide) nl_108 rfl rfl d_X_ask_40 ?_
        refine z_getN C in_N (n1) rfl 0 (by decide) nl_118 rfl rfl d_X_ask_43 ?_
        refine z_iload_n C d_X_ask_46 rfl ?_
        refine z_iald C 0 rfl n2 n.toNat (by omega) (by omega) (by decide) d_X_ask_47 ?_
        refine z_top (w := iv (((s 20 (4 * x + n.toNat)).toNat : Nat) : Int)) (by rw [hkz.1, show s 20 (4 * x + n.toNat) = (((s 20 (4 * x + n.toNat)).toNat : Nat) : Int) from by omega, Int.toNat_natCast]) ?_
        refine z_callV C hKl (cX_obtainFromOutside (s 17 x).toNat (s 20 (4 * x + n.toNat)).toNat hI hx (by omega) (by omega)) (zgood (fun _ h => h) tw_co_X_obtainFromOutside) rfl (hX) rfl tw_ml_X_96 tw_im_X_obtainFromOutside tw_se_X_obtainFromOutside tw_in_X pd_X_obtainFromOutside (by decide) rfl (Nat.le_of_ble_eq_true rfl) (by decide) d_X_ask_48 (fun r σ1 hq => ?_)
        obtain ⟨rfl, hq⟩ := hq
        exact z_lret C d_X_ask_51 (by decide) (by decide) (by rw [ea, if_pos (by omega)]; exact ⟨rfl, hq⟩)
    · refine z_ldc2 C (-1) tw_kl_X_94 d_X_ask_18 ?_
      exact z_lret C d_X_ask_21 (by decide) (by decide) (by rw [show sp_ask s x n = (-1, s) from if_pos (by rw [Int.toNat_natCast]; omega)]; exact ⟨rfl, mkr, g, hx, xF.rf⟩)
set_option maxRecDepth 100000 in
set_option maxHeartbeats 4000000 in
theorem cX_broken (i : Int) (hI : Inv s) (hx : xG cI cZ cJ cB X O bnd mkr g s (fun q => kpt s q - 1) (fun _ => 0) σ) (ri : -2147483648 ≤ i ∧ i ≤ 2147483647) : zM l D vwCl A (ztys cI cZ cJ cB) (zF A X) y_X_broken ws_X_broken (zroom 78 0 0) [.ref (X 0), iv i] σ (fun r σ' => r = some (iv (sp_broken s i)) ∧ ∃ (mkr' : Nat → Option Nat) (g' : Nat → Nat → Int), xG cI cZ cJ cB X O bnd mkr' g' s (fun q => kpt s q - 1) (fun _ => 0) σ' ∧ xF O σ σ') := by
  refine zMet2 (zF_ok A X) (by decide) (Nat.le_of_ble_eq_true rfl) (fun K hKl C => ?_)
  obtain ⟨hO, hX, h1, h2, h3, h4, h5, hB, hBf, hbn, hmk, hvl, hwk, hkp, hk1, hk2, hk3⟩ := id hx
  have hinj := hI.inj
  have loop : ∀ x : Nat, x < 3 → ∀ (n k : Nat) (mkr1 : Nat → Option Nat) (g1 : Nat → Nat → Int) (σ1 : zh), k + n = 12 → xG cI cZ cJ cB X O bnd mkr1 g1 s (fun q => kpt s q - 1) (fun _ => 0) σ1 → xF O σ σ1 → zJ K D vwCl A 3 (zQ K D vwCl A (fun r σ' => r = some (iv (brk s x n k)) ∧ ∃ (mkr' : Nat → Option Nat) (g' : Nat → Nat → Int), xG cI cZ cJ cB X O bnd mkr' g' s (fun q => kpt s q - 1) (fun _ => 0) σ' ∧ xF O σ σ') 0 0) 0 0 σ1 12 [some (.ref (X 0)), some (iv (x : Int)), some (iv (k : Int))] [] := by
    intro x hx3 n
    induction n with
    | zero =>
      intro k mkr1 g1 σ1 hk hx1 hF1
      refine z_iload_n C d_X_broken_12 rfl ?_
      refine z_bipush C d_X_broken_13 (by decide) ?_
      refine z_icmp_ge C 44 (by omega) (by omega) d_X_broken_15 (by decide) (fun h15 => ?_) (fun h15 => absurd h15 (by omega))
      refine z_bipush C d_X_broken_44 (by decide) ?_
      exact z_iret C d_X_broken_46 (by decide) (by decide) (⟨rfl, mkr1, g1, hx1, hF1⟩)
    | succ n ih =>
      intro k mkr1 g1 σ1 hk hx1 hF1
      have eb : brk s x (n + 1) k = if 0 ≤ sn s x k ∧ (rget 37 (fun _ => false) s x k).1 < 0 then (k : Int) else brk s x n (k + 1) := rfl
      have next : ∀ (mkr2 : Nat → Option Nat) (g2 : Nat → Nat → Int) (σ2 : zh), ¬ (0 ≤ sn s x k ∧ (rget 37 (fun _ => false) s x k).1 < 0) → xG cI cZ cJ cB X O bnd mkr2 g2 s (fun q => kpt s q - 1) (fun _ => 0) σ2 → xF O σ σ2 → zJ K D vwCl A 3 (zQ K D vwCl A (fun r σ' => r = some (iv (brk s x (n + 1) k)) ∧ ∃ (mkr' : Nat → Option Nat) (g' : Nat → Nat → Int), xG cI cZ cJ cB X O bnd mkr' g' s (fun q => kpt s q - 1) (fun _ => 0) σ' ∧ xF O σ σ') 0 0) 0 0 σ2 38 [some (.ref (X 0)), some (iv (x : Int)), some (iv (k : Int))] [] := by
        intro mkr2 g2 σ2 hno hx2 hF2
        rw [eb, if_neg hno]
        refine z_iinc C d_X_broken_38 rfl (by decide) ?_
        refine z_goto C 12 d_X_broken_41 (by decide) ?_
        have j := ih (k + 1) mkr2 g2 σ2 (by omega) hx2 hF2
        rw [show ((k + 1 : Nat) : Int) = (k : Int) + 1 from by omega] at j
        exact j
      refine z_iload_n C d_X_broken_12 rfl ?_
      refine z_bipush C d_X_broken_13 (by decide) ?_
      refine z_icmp_ge C 44 (by omega) (by omega) d_X_broken_15 (by decide) (fun h15 => absurd h15 (by omega)) (fun h15 => ?_)
      refine z_aload_n C d_X_broken_18 rfl ?_
      refine z_iload_n C d_X_broken_19 rfl ?_
      refine z_iload_n C d_X_broken_20 rfl ?_
      refine z_callV C hKl (cX_seenFrom x k hI hx1 (by omega) (by omega)) (zgood (fun _ h => h) tw_co_X_seenFrom) rfl (hx1.2.1) rfl tw_ml_X_124 tw_im_X_seenFrom tw_se_X_seenFrom tw_in_X pd_X_seenFrom (by decide) rfl (Nat.le_of_ble_eq_true rfl) (by decide) d_X_broken_21 (fun r σ2 hp => ?_)
      obtain ⟨rfl, rfl⟩ := hp
      by_cases hsn : sn s x k < 0
      · rw [if_pos hsn, show va_rf none = Value.null from rfl]
        refine z_ifnullN C 38 d_X_broken_24 (by decide) ?_
        exact next mkr1 g1 _ (by omega) hx1 hF1
      · obtain ⟨p, a, kd, nd, ka, la, con, sc, sz, kf, zf, hp36, -, ep, hbp, -⟩ := xsee hI hx1 (i := x) (k := k) (by omega) (by omega) hsn
        rw [if_neg hsn, ep, Int.toNat_natCast, hbp, show va_rf (some a) = Value.ref a from rfl]
        refine z_ifnull C d_X_broken_24 ?_
        refine z_aload_n C d_X_broken_27 rfl ?_
        refine z_iload_n C d_X_broken_28 rfl ?_
        refine z_iload_n C d_X_broken_29 rfl ?_
        refine z_callV C hKl (cX_wouldFail x k hI hx1 (by omega) (by omega)) (zgood (fun _ h => h) tw_co_X_wouldFail) rfl (hx1.2.1) rfl tw_ml_X_128 tw_im_X_wouldFail tw_se_X_wouldFail tw_in_X pd_X_wouldFail (by decide) rfl (Nat.le_of_ble_eq_true rfl) (by decide) d_X_broken_30 (fun r σ2 hq => ?_)
        obtain ⟨b, rfl, hb, mkr2, g2, hx2, hF2⟩ := hq
        refine z_if_eq C 38 (by omega) d_X_broken_33 (by decide) (fun h33 => ?_) (fun h33 => ?_)
        · exact next mkr2 g2 _ (by omega) hx2 (hF1.tr hF2)
        · refine z_iload_n C d_X_broken_36 rfl ?_
          exact z_iret C d_X_broken_37 (by decide) (by decide) (by rw [eb, if_pos (by omega)]; exact ⟨rfl, mkr2, g2, hx2, hF1.tr hF2⟩)
  refine z_aload_n C d_X_broken_0 rfl ?_
  refine z_iload_n C d_X_broken_1 rfl ?_
  refine z_callV C hKl (cX_isInjector i hI hx ri) (zgood (fun _ h => h) tw_co_X_isInjector) rfl (hX) rfl tw_ml_X_40 tw_im_X_isInjector tw_se_X_isInjector tw_in_X pd_X_isInjector (by decide) rfl (Nat.le_of_ble_eq_true rfl) (by decide) d_X_broken_2 (fun r σ hp => ?_)
  obtain ⟨rfl, b, rfl, hb⟩ := hp
  refine z_if_ne C 10 (by omega) d_X_broken_5 (by decide) (fun h5 => ?_) (fun h5 => ?_)
  · obtain ⟨x, rfl⟩ := Int.eq_ofNat_of_zero_le (show 0 ≤ i by omega)
    rw [show sp_broken s x = brk s x 12 0 from if_neg (by omega)]
    refine z_iconst C d_X_broken_10 ?_
    refine z_istore_n C d_X_broken_11 (by decide) ?_
    exact loop x (by omega) 12 0 mkr g _ (by omega) hx xF.rf
  · refine z_iconst C d_X_broken_8 ?_
    exact z_iret C d_X_broken_9 (by decide) (by decide) (by rw [show sp_broken s i = -1 from if_pos (by omega)]; exact ⟨rfl, mkr, g, hx, xF.rf⟩)
end XC7
end
section
/-! more writes -/
def xP (cI cZ cJ cB : ClassId) (X : Nat → Nat) (O : Nat → Prop) (σ : zh) (s' : St) (σ' : zh) : Prop := ∃ (X' : Nat → Nat) (O' : Nat → Prop), X' 0 = X 0 ∧ X' 9 = X 9 ∧ X' 10 = X 10 ∧ X' 11 = X 11 ∧ xR cI cZ cJ cB X' O' s' σ' ∧ xfr O O' σ σ'
section XL
variable {cI cZ cJ cB : ClassId} {X : Nat → Nat} {O : Nat → Prop} {bnd mkr : Nat → Option Nat} {g : Nat → Nat → Int} {σ : zh} {s : St} {kp wk : Nat → Int}
theorem xP.of {s' : St} {σ' : zh} {bnd' mkr' : Nat → Option Nat} {g' : Nat → Nat → Int} (h : xG cI cZ cJ cB X O bnd' mkr' g' s' (fun q => kpt s' q - 1) (fun _ => 0) σ') (hf : xfr O O σ σ') : xP cI cZ cJ cB X O σ s' σ' := ⟨X, O, rfl, rfl, rfl, rfl, ⟨bnd', mkr', g', h⟩, hf⟩
theorem NDk.mono {O' : Nat → Prop} {σ' : zh} {nd ka la : Nat} {sz : Int} {kf zf : Nat → Int} (h : NDk cI cZ O σ nd ka la sz kf zf) (hO : ∀ a, O a → O' a) (h1 : σ' nd = σ nd) (h2 : σ' ka = σ ka) (h3 : σ' la = σ la) : NDk cI cZ O' σ' nd ka la sz kf zf := by
  obtain ⟨k1, k2, k3, k4, k5⟩ := h
  exact ⟨⟨hO _ k1.1, hO _ k1.2.1, hO _ k1.2.2⟩, by rw [h1]; exact k2, by rw [h2]; exact k3, by rw [h3]; exact k4, k5⟩
/-- the own cells are all that counts -/
theorem xG.fr {O' : Nat → Prop} {σ' : zh} (hx : xG cI cZ cJ cB X O bnd mkr g s kp wk σ) (hO' : ∀ a, O a → O' a) (h : ∀ a, O a → σ' a = σ a) : xG cI cZ cJ cB X O' bnd mkr g s kp wk σ' := by
  obtain ⟨hO, hX, h1, h2, h3, h4, h5, hB, hBf, hbn, hmk, hvl, hwk, hkp, hk⟩ := hx
  have tN : ∀ {nd ka la : Nat} {sz : Int} {kf zf : Nat → Int}, NDk cI cZ O σ nd ka la sz kf zf → NDk cI cZ O' σ' nd ka la sz kf zf := fun n => n.mono hO' (h _ n.1.1) (h _ n.1.2.1) (h _ n.1.2.2)
  have tB : ∀ {b kd : Nat} {inj key con sc kept iw sz : Int} {kf zf : Nat → Int}, BB cI cZ X O σ b kd inj key con sc kept iw sz kf zf → BB cI cZ X O' σ' b kd inj key con sc kept iw sz kf zf := fun ⟨q1, nd, ka, la, q2, q3, q4⟩ => ⟨hO' _ q1, nd, ka, la, by rw [h _ q1]; exact q2, tN q3, q4⟩
  refine ⟨⟨hO' _ hO.1, hO' _ hO.2.1, hO' _ hO.2.2.1, hO' _ hO.2.2.2.1, hO' _ hO.2.2.2.2.1, hO' _ hO.2.2.2.2.2⟩, by rw [h _ hO.1]; exact hX, by rw [h _ hO.2.1]; exact h1, by rw [h _ hO.2.2.1]; exact h2, by rw [h _ hO.2.2.2.1]; exact h3, by rw [h _ hO.2.2.2.2.1]; exact h4, by rw [h _ hO.2.2.2.2.2]; exact h5, ⟨tN hB.1, hB.2⟩, hBf, fun p hp => ?_, fun i hi => ?_, hvl, hwk, hkp, hk⟩
  · rcases hbn p hp with z | ⟨a, kd, con, sc, sz, kf, zf, z1, z2, z3⟩
    · exact Or.inl z
    · exact Or.inr ⟨a, kd, con, sc, sz, kf, zf, z1, tB z2, z3⟩
  · obtain ⟨a, kd, con, kept, iw, kf, zf, z1, z2, z3⟩ := hmk i hi
    exact ⟨a, kd, con, kept, iw, kf, zf, z1, tB z2, z3⟩
/-- the buffer is written anew -/
theorem xG.buf {σ' : zh} {s' : St} {kf zf : Nat → Int} (hx : xG cI cZ cJ cB X O bnd mkr g s kp wk σ) (h6 : σ' (X 6) = some (ob 1 [.ref (X 7), .ref (X 8), iv (s' 4 0)])) (h7 : σ' (X 7) = some (ia cI 4 kf)) (h8 : σ' (X 8) = some (ia cZ 4 zf)) (hu : ∀ b, b ≠ X 6 → b ≠ X 7 → b ≠ X 8 → σ' b = σ b) (hs : ∀ f, f ≠ 2 → f ≠ 3 → f ≠ 4 → s' f = s f) (hsz : 0 ≤ s' 4 0 ∧ s' 4 0 ≤ 4) (hkf : ∀ j, 0 ≤ kf j ∧ kf j ≤ 11) (hzf : ∀ j, zf j = 0 ∨ zf j = 1) (hq : ∀ j : Nat, (j : Int) < s' 4 0 → kf j = s' 2 j ∧ zf j = s' 3 j) : xG cI cZ cJ cB X O bnd mkr (srow (srow g 2 kf) 3 zf) s' kp wk σ' := by
  obtain ⟨hO, hX, h1, h2, h3, h4, h5, hB, hBf, hbn, hmk, hvl, hwk, hkp, hk⟩ := hx
  obtain ⟨⟨b1, b2, b3, b4, -⟩, b6⟩ := hB
  have main : ∀ (b : Nat) (e : va_E), σ b = some e → (∀ fs, e ≠ ob 1 fs) → (∀ f, e ≠ ia cI 4 f) → (∀ f, e ≠ ia cZ 4 f) → σ' b = some e := fun b e hb q1 q2 q3 => by
    rw [hu b (fun z => ?_) (fun z => ?_) (fun z => ?_)]
    · exact hb
    · rw [z, b2] at hb; exact q1 _ (Option.some.inj hb).symm
    · rw [z, b3] at hb; exact q2 _ (Option.some.inj hb).symm
    · rw [z, b4] at hb; exact q3 _ (Option.some.inj hb).symm
  have tB : ∀ {b kd : Nat} {inj key con sc kept iw sz : Int} {kf zf : Nat → Int}, BB cI cZ X O σ b kd inj key con sc kept iw sz kf zf → BB cI cZ X O σ' b kd inj key con sc kept iw sz kf zf := fun {b kd inj key con sc kept iw sz kf zf} ⟨q1, nd, ka, la, q2, q3, q4⟩ => by
    obtain ⟨c1, c2, c3, c4, c5⟩ := q3
    refine ⟨q1, nd, ka, la, main _ _ q2 (fun _ h => (by cases h)) (fun _ h => (by cases h)) (fun _ h => (by cases h)), ⟨c1, ?_, ?_, ?_, c5⟩, q4⟩
    · rw [hu nd q4.1 (fun z => (by rw [z, b3] at c2; cases c2)) (fun z => (by rw [z, b4] at c2; cases c2))]; exact c2
    · rw [hu ka (fun z => (by rw [z, b2] at c3; cases c3)) q4.2.1 q4.2.2.1]; exact c3
    · rw [hu la (fun z => (by rw [z, b2] at c4; cases c4)) q4.2.2.2.1 q4.2.2.2.2]; exact c4
  have e : ∀ f, f ≠ 2 → f ≠ 3 → f ≠ 4 → s' f = s f := hs
  refine ⟨hO, ?_, ?_, main _ _ h2 (fun _ h => (by cases h)) (fun _ h => (by cases h)) (fun _ h => (by cases h)), main _ _ h3 (fun _ h => (by cases h)) (fun _ h => (by cases h)) (fun _ h => (by cases h)), main _ _ h4 (fun _ h => (by cases h)) (fun _ h => (by cases h)) (fun _ h => (by cases h)), main _ _ h5 (fun _ h => (by cases h)) (fun _ h => (by cases h)) (fun _ h => (by cases h)), ⟨⟨b1, h6, h7, h8, hsz, hkf, hzf⟩, b6⟩, hq, fun p hp => ?_, fun i hi => ?_, fun i j hi hj => ?_, hwk, hkp, hk⟩
  · rw [main _ _ hX (fun _ h => (by cases h)) (fun _ h => (by cases h)) (fun _ h => (by cases h))]
    unfold xfs
    rw [e 1 (by decide) (by decide) (by decide), e 23 (by decide) (by decide) (by decide), e 15 (by decide) (by decide) (by decide)]
  · rw [e 0 (by decide) (by decide) (by decide)]
    exact main _ _ h1 (fun _ h => (by cases h)) (fun _ h => (by cases h)) (fun _ h => (by cases h))
  · unfold xB BK
    rw [e 5 (by decide) (by decide) (by decide), e 6 (by decide) (by decide) (by decide), e 7 (by decide) (by decide) (by decide), e 8 (by decide) (by decide) (by decide), e 9 (by decide) (by decide) (by decide), e 10 (by decide) (by decide) (by decide)]
    rcases hbn p hp with z | ⟨a, kd, con, sc, sz, kf, zf, z1, z2, z3⟩
    · exact Or.inl z
    · exact Or.inr ⟨a, kd, con, sc, sz, kf, zf, z1, tB z2, z3⟩
  · rw [e 23 (by decide) (by decide) (by decide)] at hi
    obtain ⟨a, kd, con, kept, iw, kf, zf, z1, z2, z3⟩ := hmk i hi
    unfold xMk
    rw [e 16 (by decide) (by decide) (by decide), e 17 (by decide) (by decide) (by decide), e 18 (by decide) (by decide) (by decide), e 19 (by decide) (by decide) (by decide), e 20 (by decide) (by decide) (by decide), e 21 (by decide) (by decide) (by decide)]
    exact ⟨a, kd, con, kept, iw, kf, zf, z1, tB z2, z3⟩
  · rw [e 23 (by decide) (by decide) (by decide)] at hi
    rw [e 19 (by decide) (by decide) (by decide)] at hj
    rw [e 22 (by decide) (by decide) (by decide)]
    exact hvl i j hi hj
/-- a pair's binding is put or taken: the others stay -/
theorem xG.bnw {s' : St} {kp' : Nat → Int} {p : Nat} {x : Option Nat} (hp : p < 36) (hx : xG cI cZ cJ cB X O bnd mkr g s kp wk σ) (hs : ∀ f, f < 5 ∨ f = 15 ∨ (16 ≤ f ∧ f ≤ 23) → s' f = s f) (hn : ∀ q, q < 36 → q ≠ p → s' 5 q = s 5 q ∧ s' 6 q = s 6 q ∧ s' 7 q = s 7 q ∧ s' 8 q = s 8 q ∧ (∀ j, j < 4 → s' 9 (4 * q + j) = s 9 (4 * q + j) ∧ s' 10 (4 * q + j) = s 10 (4 * q + j)) ∧ kp' q = kp q) (hr : ∀ q, -1 ≤ kp' q ∧ kp' q ≤ 200) (hnew : xB cI cZ X O (va_up bnd p x) s' kp' wk (zput σ (X 2) (ra cB 36 (va_up bnd p x))) p) : xG cI cZ cJ cB X O (va_up bnd p x) mkr g s' kp' wk (zput σ (X 2) (ra cB 36 (va_up bnd p x))) := by
  obtain ⟨hO, hX, h1, h2, h3, h4, h5, hB, hBf, hbn, hmk, hvl, hwk, hkp, hk⟩ := hx
  have e := hs
  refine ⟨hO, ?_, ?_, zput_s _ _ _, zput_o h2 h3 (by intro h; cases h), zput_o h2 h4 (by intro h; cases h), zput_o h2 h5 (by intro h; cases h), ?_, ?_, fun q hq => ?_, fun i hi => ?_, fun i j hi hj => ?_, hwk, hr, hk⟩
  · rw [zput_o h2 hX (by intro h; cases h)]
    unfold xfs
    rw [e 1 (by omega), e 23 (by omega), e 15 (by omega)]
  · rw [e 0 (by omega)]; exact zput_o h2 h1 (by intro h; cases h)
  · rw [e 4 (by omega)]; exact ⟨hB.1.off h2 xoff_ra, hB.2⟩
  · rw [e 4 (by omega), e 2 (by omega), e 3 (by omega)]; exact hBf
  · by_cases c : q = p
    · rw [c]; exact hnew
    · obtain ⟨n1, n2, n3, n4, n5, n6⟩ := hn q hq c
      have eb : va_up bnd p x q = bnd q := by simp [va_up, c]
      rcases hbn q hq with z | ⟨a, kd, con, sc, sz, kf, zf, z1, z2, z3⟩
      · exact Or.inl ⟨by rw [eb]; exact z.1, by rw [n1]; exact z.2⟩
      · refine Or.inr ⟨a, kd, con, sc, sz, kf, zf, by rw [eb]; exact z1, by rw [n6]; exact z2.off h2 xoff_ra, ?_⟩
        have hsz : sz ≤ 4 := by
          obtain ⟨nd, ka, la, -, n⟩ := z2.rec
          exact n.2.2.2.2.1.2
        unfold BK at z3 ⊢
        rw [n1, n2, n3, n4]
        rcases z3 with z3 | z3 | z3
        · exact Or.inl z3
        · exact Or.inr (Or.inl z3)
        · refine Or.inr (Or.inr ⟨z3.1, z3.2.1, z3.2.2.1, z3.2.2.2.1, fun j hj => ?_⟩)
          rw [(n5 j (by omega)).1, (n5 j (by omega)).2]
          exact z3.2.2.2.2 j hj
  · rw [e 23 (by omega)] at hi
    have z := (hmk i hi).off (e := ra cB 36 (va_up bnd p x)) h2 xoff_ra
    unfold xMk at z ⊢
    rw [e 16 (by omega), e 17 (by omega), e 18 (by omega), e 19 (by omega), e 20 (by omega), e 21 (by omega)]
    exact z
  · rw [e 23 (by omega)] at hi
    rw [e 19 (by omega)] at hj
    rw [e 22 (by omega)]
    exact hvl i j hi hj
end XL
end
section
section XC8
variable {l : Launch} {D : va_G} {A : Nat → Prop} {cI cZ cJ cB : ClassId} {X : Nat → Nat} {O : Nat → Prop} {bnd mkr : Nat → Option Nat} {g : Nat → Nat → Int} {σ : zh} {s : St} {kp wk : Nat → Int}
theorem xG.b5 (hx : xG cI cZ cJ cB X O bnd mkr g s kp wk σ) {p : Nat} (hp : p < 36) : (bnd p = none ∧ s 5 p = 0) ∨ ∃ a, bnd p = some a ∧ s 5 p ≠ 0 := by
  rcases hx.2.2.2.2.2.2.2.2.2.1 p hp with z | ⟨a, kd, con, sc, sz, kf, zf, z1, z2, z3⟩
  · exact Or.inl z
  · refine Or.inr ⟨a, z1, ?_⟩
    rcases z3 with z | z | z <;> (have := z.1; omega)
def ck (s : St) (n : Nat) : Nat → Int := fun t => if t < n then s 11 t - 1 else kpt s t - 1
theorem ck_0 (s : St) : ck s 0 = fun t => kpt s t - 1 := by funext t; unfold ck; rw [if_neg (by omega)]
theorem ck_kp (hI : Inv s) (n t : Nat) : -1 ≤ ck s n t ∧ ck s n t ≤ 200 := by
  have h1 := hI.si t
  have h2 := hI.kp t
  have h3 := hI.md
  unfold ck
  split <;> omega
theorem ck_keep {n : Nat} (h : s 12 n = 0) : ck s (n + 1) = ck s n := by
  funext t
  unfold ck kpt
  by_cases c : t = n
  · subst c; rw [if_pos (by omega), if_neg (by omega), h, Int.add_zero]
  · by_cases c2 : t < n
    · rw [if_pos (by omega), if_pos c2]
    · rw [if_neg (by omega), if_neg c2]
theorem ck_drop {n : Nat} (h : s 11 n = 0) : iup (ck s n) n (-1) = ck s (n + 1) := by
  funext t
  by_cases c : t = n
  · subst c; rw [iup_s]; unfold ck; rw [if_pos (by omega), h]; rfl
  · rw [iup_n c]
    unfold ck
    by_cases c2 : t < n
    · rw [if_pos c2, if_pos (by omega)]
    · rw [if_neg c2, if_neg (by omega)]
theorem ck_end (s : St) : (fun t => kpt (srow (sup s 15 0 0) 12 (zer (s 12) 36)) t - 1) = ck s 36 := by
  funext t
  show s 11 t + zer (s 12) 36 t - 1 = ck s 36 t
  unfold ck zer kpt
  by_cases c : t < 36
  · rw [if_pos c, if_pos c, Int.add_zero]
  · rw [if_neg c, if_neg c]
set_option maxRecDepth 100000 in
set_option maxHeartbeats 4000000 in
theorem cX_child (i : Int) (hI : Inv s) (hx : xG cI cZ cJ cB X O bnd mkr g s (fun q => kpt s q - 1) (fun _ => 0) σ) (ri : -2147483648 ≤ i ∧ i ≤ 2147483647) : zM l D vwCl A (ztys cI cZ cJ cB) (zF A X) y_X_child ws_X_child (zroom 1 0 0) [.ref (X 0), iv i] σ (fun r σ' => r = some (iv (sp_child s i).1) ∧ xP cI cZ cJ cB X O σ (sp_child s i).2 σ') := by
  refine zMet2 (zF_ok A X) (by decide) (Nat.le_of_ble_eq_true rfl) (fun K hKl C => ?_)
  obtain ⟨hO, hX, h1, h2, h3, h4, h5, hB, hBf, hbn, hmk, hvl, hwk, hkp, hk1, hk2, hk3⟩ := id hx
  have hinj := hI.inj
  refine z_aload_n C d_X_child_0 rfl ?_
  refine z_iload_n C d_X_child_1 rfl ?_
  refine z_callV C hKl (cX_isInjector i hI hx ri) (zgood (fun _ h => h) tw_co_X_isInjector) rfl (hX) rfl tw_ml_X_40 tw_im_X_isInjector tw_se_X_isInjector tw_in_X pd_X_isInjector (by decide) rfl (Nat.le_of_ble_eq_true rfl) (by decide) d_X_child_2 (fun r σ hp => ?_)
  obtain ⟨rfl, b, rfl, hb⟩ := hp
  refine z_if_eq C 16 (by omega) d_X_child_5 (by decide) (fun h5 => ?_) (fun h5 => ?_)
  · refine z_iconst C d_X_child_16 ?_
    exact z_iret C d_X_child_17 (by decide) (by decide) (by rw [show sp_child s i = (-1, s) from if_pos (by omega)]; exact ⟨rfl, xP.of hx xfr.rf⟩)
  · refine z_aload_n C d_X_child_8 rfl ?_
    refine z_get C in_X (hX) rfl 6 (by decide) tw_fl_X_13 rfl rfl d_X_child_9 ?_
    refine z_iconst C d_X_child_12 ?_
    refine z_icmp_lt C 18 (by omega) (by omega) d_X_child_13 (by decide) (fun h13 => ?_) (fun h13 => ?_)
    · refine z_aload_n C d_X_child_18 rfl ?_
      refine z_get C in_X (hX) rfl 6 (by decide) tw_fl_X_13 rfl rfl d_X_child_19 ?_
      refine z_istore_n C d_X_child_22 (by decide) ?_
      refine z_aload_n C d_X_child_23 rfl ?_
      refine z_get C in_X (hX) rfl 0 (by decide) tw_fl_X_9 rfl rfl d_X_child_24 ?_
      refine z_iload_n C d_X_child_27 rfl ?_
      refine z_iload_n C d_X_child_28 rfl ?_
      refine z_iast C 0 rfl h1 (s 1 0).toNat (by omega) (by omega) (by decide) d_X_child_29 ?_
      refine z_aload_n C d_X_child_30 rfl ?_
      refine z_dup C rfl d_X_child_31 ?_
      refine z_get C in_X (zput_o h1 hX (by intro h; cases h)) rfl 6 (by decide) tw_fl_X_13 rfl rfl d_X_child_32 ?_
      refine z_iconst C d_X_child_35 ?_
      refine z_iadd C d_X_child_36 ?_
      refine z_put C in_X t_X tk_X nm_X (zput_o h1 hX (by intro h; cases h)) rfl 6 (by decide) tw_fl_X_13 rfl rfl (tk_X 6 (by decide)) rfl rfl (Nat.le_of_ble_eq_true rfl) d_X_child_37 ?_
      refine z_eq (σ' := zput (zput σ (X 1) (ia cI 3 (iup (s 0) (s 1 0).toNat i))) (X 0) (ob 2 (xfs X (sup (sup s 0 (s 1 0).toNat i) 1 0 (s 1 0 + 1))))) rfl rfl rfl ?_
      refine z_iload_n C d_X_child_40 rfl ?_
      exact z_iret C d_X_child_41 (by decide) (by decide) (by rw [show sp_child s i = (s 1 0, sup (sup s 0 (s 1 0).toNat i) 1 0 (s 1 0 + 1)) from if_neg (by omega)]; exact ⟨rfl, xP.of ((hx.p1 _ _).o1 _) ((xfr.put hO.2.1).tr (xfr.put hO.1))⟩)
    · refine z_iconst C d_X_child_16 ?_
      exact z_iret C d_X_child_17 (by decide) (by decide) (by rw [show sp_child s i = (-1, s) from if_pos (by omega)]; exact ⟨rfl, xP.of hx xfr.rf⟩)
set_option maxRecDepth 100000 in
set_option maxHeartbeats 4000000 in
theorem cX_open  (hI : Inv s) (hx : xG cI cZ cJ cB X O bnd mkr g s (fun q => kpt s q - 1) (fun _ => 0) σ)  : zM l D vwCl A (ztys cI cZ cJ cB) (zF A X) y_X_open ws_X_open (zroom 0 0 0) [.ref (X 0)] σ (fun r σ' => r = some (iv (sp_open s).1) ∧ xP cI cZ cJ cB X O σ (sp_open s).2 σ') := by
  refine zMet2 (zF_ok A X) (by decide) (Nat.le_of_ble_eq_true rfl) (fun K hKl C => ?_)
  obtain ⟨hO, hX, h1, h2, h3, h4, h5, hB, hBf, hbn, hmk, hvl, hwk, hkp, hk1, hk2, hk3⟩ := id hx
  have hop := hI.op
  refine z_aload_n C d_X_open_0 rfl ?_
  refine z_get C in_X (hX) rfl 8 (by decide) tw_fl_X_80 rfl rfl d_X_open_1 ?_
  refine z_if_eq C 9 (by omega) d_X_open_4 (by decide) (fun h4 => ?_) (fun h4 => ?_)
  · refine z_aload_n C d_X_open_9 rfl ?_
    refine z_iconst C d_X_open_10 ?_
    refine z_put C in_X t_X tk_X nm_X hX rfl 8 (by decide) tw_fl_X_80 rfl rfl (tk_X 8 (by decide)) rfl rfl (Nat.le_of_ble_eq_true rfl) d_X_open_11 ?_
    refine z_eq (σ' := zput σ (X 0) (ob 2 (xfs X (sup s 15 0 1)))) rfl rfl rfl ?_
    refine z_iconst C d_X_open_14 ?_
    exact z_iret C d_X_open_15 (by decide) (by decide) (by rw [show sp_open s = (1, sup s 15 0 1) from if_pos (by omega)]; exact ⟨rfl, xP.of (hx.o15 _) (xfr.put hO.1)⟩)
  · refine z_iconst C d_X_open_7 ?_
    exact z_iret C d_X_open_8 (by decide) (by decide) (by rw [show sp_open s = (-1, s) from if_neg (by omega)]; exact ⟨rfl, xP.of hx xfr.rf⟩)
set_option maxRecDepth 100000 in
set_option maxHeartbeats 4000000 in
theorem cX_drop  (hI : Inv s) (hx : xG cI cZ cJ cB X O bnd mkr g s (fun q => kpt s q - 1) (fun _ => 0) σ)  : zM l D vwCl A (ztys cI cZ cJ cB) (zF A X) y_X_drop ws_X_drop (zroom 0 0 0) [.ref (X 0)] σ (fun r σ' => r = some (iv (sp_drop s).1) ∧ xP cI cZ cJ cB X O σ (sp_drop s).2 σ') := by
  refine zMet2 (zF_ok A X) (by decide) (Nat.le_of_ble_eq_true rfl) (fun K hKl C => ?_)
  obtain ⟨hO, hX, h1, h2, h3, h4, h5, hB, hBf, hbn, hmk, hvl, hwk, hkp, hk1, hk2, hk3⟩ := id hx
  have b2 := hB.1.2.1
  have b3 := hB.1.2.2.1
  have b4 := hB.1.2.2.2.1
  have b5 := hB.1.2.2.2.2
  refine z_aload_n C d_X_drop_0 rfl ?_
  refine z_get C in_X (hX) rfl 5 (by decide) tw_fl_X_36 rfl rfl d_X_drop_1 ?_
  refine z_getN C in_N (b2) rfl 2 (by decide) nl_47 rfl rfl d_X_drop_4 ?_
  refine z_istore_n C d_X_drop_7 (by decide) ?_
  refine z_aload_n C d_X_drop_8 rfl ?_
  refine z_get C in_X (hX) rfl 5 (by decide) tw_fl_X_36 rfl rfl d_X_drop_9 ?_
  refine z_iconst C d_X_drop_12 ?_
  refine z_putN C in_N t_N tk_N nm_N b2 rfl 2 (by decide) nl_47 rfl rfl (tk_N 2 (by decide)) rfl rfl (Nat.le_of_ble_eq_true rfl) d_X_drop_13 ?_
  refine z_eq (σ' := zput σ (X 6) (ob 1 [.ref (X 7), .ref (X 8), iv 0])) rfl rfl rfl ?_
  refine z_iload_n C d_X_drop_16 rfl ?_
  exact z_iret C d_X_drop_17 (by decide) (by decide) (⟨rfl, xP.of (hx.buf (s' := sup s 4 0 0) (zput_s _ _ _) (zput_o b2 b3 (by intro h; cases h)) (zput_o b2 b4 (by intro h; cases h)) (fun b q1 _ _ => zput_n q1) (fun f _ _ q => sup_n q) (by show (0 : Int) ≤ 0 ∧ (0 : Int) ≤ 4; omega) b5.2.1 b5.2.2 (fun j hj => absurd hj (by show ¬ (j : Int) < 0; omega))) (xfr.put hB.1.1.1)⟩)
set_option maxRecDepth 100000 in
set_option maxHeartbeats 4000000 in
theorem cN_append {nd ka la : Nat} {sz : Int} {kf zf : Nat → Int} (k z : Int) (h6 : σ nd = some (ob 1 [.ref ka, .ref la, iv sz])) (h7 : σ ka = some (ia cI 4 kf)) (h8 : σ la = some (ia cZ 4 zf)) (hne : la ≠ ka) (hsz : 0 ≤ sz ∧ sz < 4) (hz : z = 0 ∨ z = 1) : zM l D vwCl A (ztys cI cZ cJ cB) (zF A X) y_N_append ws_N_append (zroom 0 0 0) [.ref nd, iv k, iv z] σ (fun r σ' => r = none ∧ σ' = zput (zput (zput σ ka (ia cI 4 (iup kf sz.toNat k))) la (ia cZ 4 (iup zf sz.toNat z))) nd (ob 1 [.ref ka, .ref la, iv (sz + 1)])) := by
  refine zMet2 (zF_ok A X) (by decide) (Nat.le_of_ble_eq_true rfl) (fun K hKl C => ?_)
  have u1 : zput σ ka (ia cI 4 (iup kf sz.toNat k)) nd = some (ob 1 [.ref ka, .ref la, iv sz]) := zput_o h7 h6 (by intro h; cases h)
  have u2 : zput σ ka (ia cI 4 (iup kf sz.toNat k)) la = some (ia cZ 4 zf) := by rw [zput_n hne]; exact h8
  have u3 : zput (zput σ ka (ia cI 4 (iup kf sz.toNat k))) la (ia cZ 4 (iup zf sz.toNat z)) nd = some (ob 1 [.ref ka, .ref la, iv sz]) := zput_o u2 u1 (by intro h; cases h)
  refine z_aload_n C d_N_append_0 rfl ?_
  refine z_get C in_N (h6) rfl 2 (by decide) tw_fl_N_19 rfl rfl d_N_append_1 ?_
  refine z_iconst C d_N_append_4 ?_
  refine z_icmp_ge C 38 (by omega) (by omega) d_N_append_5 (by decide) (fun h5 => absurd h5 (by omega)) (fun h5 => ?_)
  refine z_aload_n C d_N_append_8 rfl ?_
  refine z_get C in_N (h6) rfl 0 (by decide) tw_fl_N_9 rfl rfl d_N_append_9 ?_
  refine z_aload_n C d_N_append_12 rfl ?_
  refine z_get C in_N (h6) rfl 2 (by decide) tw_fl_N_19 rfl rfl d_N_append_13 ?_
  refine z_iload_n C d_N_append_16 rfl ?_
  refine z_iast C 0 rfl h7 sz.toNat (by omega) (by omega) (by decide) d_N_append_17 ?_
  refine z_aload_n C d_N_append_18 rfl ?_
  refine z_get C in_N (u1) rfl 1 (by decide) tw_fl_N_15 rfl rfl d_N_append_19 ?_
  refine z_aload_n C d_N_append_22 rfl ?_
  refine z_get C in_N (u1) rfl 2 (by decide) tw_fl_N_19 rfl rfl d_N_append_23 ?_
  refine z_iload_n C d_N_append_26 rfl ?_
  refine z_zast C 1 rfl u2 sz.toNat (by omega) (by omega) (by decide) hz d_N_append_27 ?_
  refine z_aload_n C d_N_append_28 rfl ?_
  refine z_dup C rfl d_N_append_29 ?_
  refine z_get C in_N (u3) rfl 2 (by decide) tw_fl_N_19 rfl rfl d_N_append_30 ?_
  refine z_iconst C d_N_append_33 ?_
  refine z_iadd C d_N_append_34 ?_
  refine z_put C in_N t_N tk_N nm_N u3 rfl 2 (by decide) tw_fl_N_19 rfl rfl (tk_N 2 (by decide)) rfl rfl (Nat.le_of_ble_eq_true rfl) d_N_append_35 ?_
  refine z_eq (σ' := zput (zput (zput σ ka (ia cI 4 (iup kf sz.toNat k))) la (ia cZ 4 (iup zf sz.toNat z))) nd (ob 1 [.ref ka, .ref la, iv (sz + 1)])) rfl rfl rfl ?_
  exact z_vret C d_N_append_38 (by decide) (by decide) (⟨rfl, rfl⟩)
set_option maxRecDepth 100000 in
set_option maxHeartbeats 4000000 in
theorem cX_need (k z : Int) (hI : Inv s) (hx : xG cI cZ cJ cB X O bnd mkr g s (fun q => kpt s q - 1) (fun _ => 0) σ) (rk : -2147483648 ≤ k ∧ k ≤ 2147483647) (hz : z = 0 ∨ z = 1) : zM l D vwCl A (ztys cI cZ cJ cB) (zF A X) y_X_need ws_X_need (zroom 1 0 0) [.ref (X 0), iv k, iv z] σ (fun r σ' => r = some (iv (sp_need s k z).1) ∧ xP cI cZ cJ cB X O σ (sp_need s k z).2 σ') := by
  refine zMet2 (zF_ok A X) (by decide) (Nat.le_of_ble_eq_true rfl) (fun K hKl C => ?_)
  obtain ⟨hO, hX, h1, h2, h3, h4, h5, hB, hBf, hbn, hmk, hvl, hwk, hkp, hk1, hk2, hk3⟩ := id hx
  have b2 := hB.1.2.1
  have b3 := hB.1.2.2.1
  have b4 := hB.1.2.2.2.1
  have b5 := hB.1.2.2.2.2
  have hne : X 8 ≠ X 7 := fun e => hB.2 e.symm
  have hbn' := hI.bn
  refine z_iload_n C d_X_need_0 rfl ?_
  refine z_callS C hKl (cX_isKey k rk) (zgood (fun _ h => h) tw_co_X_isKey) rfl tw_ml_X_44 tw_st_X_isKey tw_in_X pd_X_isKey (by decide) rfl (Nat.le_of_ble_eq_true rfl) (by decide) d_X_need_1 (fun r σ hp => ?_)
  obtain ⟨rfl, b, rfl, hb⟩ := hp
  refine z_if_eq C 18 (by omega) d_X_need_4 (by decide) (fun h4 => ?_) (fun h4 => ?_)
  · refine z_iconst C d_X_need_18 ?_
    exact z_iret C d_X_need_19 (by decide) (by decide) (by rw [show sp_need s k z = (-1, s) from if_pos (by omega)]; exact ⟨rfl, xP.of hx xfr.rf⟩)
  · refine z_aload_n C d_X_need_7 rfl ?_
    refine z_get C in_X (hX) rfl 5 (by decide) tw_fl_X_36 rfl rfl d_X_need_8 ?_
    refine z_getN C in_N (b2) rfl 2 (by decide) nl_47 rfl rfl d_X_need_11 ?_
    refine z_iconst C d_X_need_14 ?_
    refine z_icmp_lt C 20 (by omega) (by omega) d_X_need_15 (by decide) (fun h15 => ?_) (fun h15 => ?_)
    · refine z_aload_n C d_X_need_20 rfl ?_
      refine z_get C in_X (hX) rfl 5 (by decide) tw_fl_X_36 rfl rfl d_X_need_21 ?_
      refine z_iload_n C d_X_need_24 rfl ?_
      refine z_iload_n C d_X_need_25 rfl ?_
      refine z_callVN C hKl (cN_append k z b2 b3 b4 hne (by omega) hz) (zgood (fun _ h => h) tw_co_N_append) rfl b2 rfl nl_50 tw_im_N_append tw_se_N_append tw_in_N pd_N_append (by decide) rfl (Nat.le_of_ble_eq_true rfl) (by decide) d_X_need_26 (fun r σ1 hq => ?_)
      obtain ⟨rfl, rfl⟩ := hq
      have v1 : zput (zput σ (X 7) (ia cI 4 (iup (g 2) (s 4 0).toNat k))) (X 8) (ia cZ 4 (iup (g 3) (s 4 0).toNat z)) (X 0) = some (ob 2 (xfs X s)) := zput_o (show zput σ (X 7) (ia cI 4 (iup (g 2) (s 4 0).toNat k)) (X 8) = some (ia cZ 4 (g 3)) by rw [zput_n hne]; exact b4) (zput_o b3 hX (by intro h; cases h)) (by intro h; cases h)
      have v2 : zput (zput σ (X 7) (ia cI 4 (iup (g 2) (s 4 0).toNat k))) (X 8) (ia cZ 4 (iup (g 3) (s 4 0).toNat z)) (X 6) = some (ob 1 [.ref (X 7), .ref (X 8), iv (s 4 0)]) := zput_o (show zput σ (X 7) (ia cI 4 (iup (g 2) (s 4 0).toNat k)) (X 8) = some (ia cZ 4 (g 3)) by rw [zput_n hne]; exact b4) (zput_o b3 b2 (by intro h; cases h)) (by intro h; cases h)
      have n67 : X 6 ≠ X 7 := fun e => by rw [e, b3] at b2; cases b2
      have n68 : X 6 ≠ X 8 := fun e => by rw [e, b4] at b2; cases b2
      refine z_aload_n C d_X_need_29 rfl ?_
      refine z_get C in_X (zput_o v2 v1 (by intro h; cases h)) rfl 5 (by decide) tw_fl_X_36 rfl rfl d_X_need_30 ?_
      refine z_getN C in_N (zput_s _ _ _) rfl 2 (by decide) nl_47 rfl rfl d_X_need_33 ?_
      exact z_iret C d_X_need_36 (by decide) (by decide) (by
        rw [show sp_need s k z = (s 4 0 + 1, sup (sup (sup s 2 (s 4 0).toNat k) 3 (s 4 0).toNat z) 4 0 (s 4 0 + 1)) from if_neg (by omega)]
        refine ⟨rfl, xP.of (hx.buf (s' := sup (sup (sup s 2 (s 4 0).toNat k) 3 (s 4 0).toNat z) 4 0 (s 4 0 + 1)) (kf := iup (g 2) (s 4 0).toNat k) (zf := iup (g 3) (s 4 0).toNat z) (zput_s _ _ _) ?_ ?_ (fun b q1 q2 q3 => ?_) (fun f q1 q2 q3 => ?_) ?_ (fun j => ?_) (fun j => ?_) (fun j hj => ?_)) (((xfr.put hB.1.1.2.1).tr (xfr.put hB.1.1.2.2)).tr (xfr.put hB.1.1.1))⟩
        · rw [zput_n (Ne.symm n67), zput_n (Ne.symm hne), zput_s]
        · rw [zput_n (Ne.symm n68), zput_s]
        · rw [zput_n q1, zput_n q3, zput_n q2]
        · rw [sup_n q3, sup_n q2, sup_n q1]
        · show 0 ≤ s 4 0 + 1 ∧ s 4 0 + 1 ≤ 4
          omega
        · by_cases c : j = (s 4 0).toNat
          · rw [c, iup_s]; omega
          · rw [iup_n c]; exact b5.2.1 j
        · by_cases c : j = (s 4 0).toNat
          · rw [c, iup_s]; exact hz
          · rw [iup_n c]; exact b5.2.2 j
        · have hj : (j : Int) < s 4 0 + 1 := hj
          show iup (g 2) (s 4 0).toNat k j = iup (s 2) (s 4 0).toNat k j ∧ iup (g 3) (s 4 0).toNat z j = iup (s 3) (s 4 0).toNat z j
          by_cases c : j = (s 4 0).toNat
          · rw [c, iup_s, iup_s, iup_s, iup_s]; exact ⟨rfl, rfl⟩
          · rw [iup_n c, iup_n c, iup_n c, iup_n c]; exact hBf j (by omega))
    · refine z_iconst C d_X_need_18 ?_
      exact z_iret C d_X_need_19 (by decide) (by decide) (by rw [show sp_need s k z = (-1, s) from if_pos (by omega)]; exact ⟨rfl, xP.of hx xfr.rf⟩)
set_option maxRecDepth 100000 in
set_option maxHeartbeats 4000000 in
theorem cX_unbind (i k : Int) (hI : Inv s) (hx : xG cI cZ cJ cB X O bnd mkr g s (fun q => kpt s q - 1) (fun _ => 0) σ) (ri : -2147483648 ≤ i ∧ i ≤ 2147483647) (rk : -2147483648 ≤ k ∧ k ≤ 2147483647) : zM l D vwCl A (ztys cI cZ cJ cB) (zF A X) y_X_unbind ws_X_unbind (zroom 2 0 0) [.ref (X 0), iv i, iv k] σ (fun r σ' => r = some (iv (sp_unbind s i k).1) ∧ xP cI cZ cJ cB X O σ (sp_unbind s i k).2 σ') := by
  refine zMet2 (zF_ok A X) (by decide) (Nat.le_of_ble_eq_true rfl) (fun K hKl C => ?_)
  obtain ⟨hO, hX, h1, h2, h3, h4, h5, hB, hBf, hbn, hmk, hvl, hwk, hkp, hk1, hk2, hk3⟩ := id hx
  have hinj := hI.inj
  refine z_aload_n C d_X_unbind_0 rfl ?_
  refine z_iload_n C d_X_unbind_1 rfl ?_
  refine z_iload_n C d_X_unbind_2 rfl ?_
  refine z_callV C hKl (cX_isPair i k hI hx ri rk) (zgood (fun _ h => h) tw_co_X_isPair) rfl (hX) rfl tw_ml_X_77 tw_im_X_isPair tw_se_X_isPair tw_in_X pd_X_isPair (by decide) rfl (Nat.le_of_ble_eq_true rfl) (by decide) d_X_unbind_3 (fun r σ hp => ?_)
  obtain ⟨rfl, b, rfl, hb⟩ := hp
  refine z_if_eq C 22 (by omega) d_X_unbind_6 (by decide) (fun h6 => ?_) (fun h6 => ?_)
  · refine z_iconst C d_X_unbind_22 ?_
    exact z_iret C d_X_unbind_23 (by decide) (by decide) (by rw [show sp_unbind s i k = (-1, s) from if_pos (by omega)]; exact ⟨rfl, xP.of hx xfr.rf⟩)
  · have hpr : ((pr i k : Nat) : Int) = 12 * i + k := by unfold pr; omega
    refine z_aload_n C d_X_unbind_9 rfl ?_
    refine z_get C in_X (hX) rfl 1 (by decide) tw_fl_X_19 rfl rfl d_X_unbind_10 ?_
    refine z_iload_n C d_X_unbind_13 rfl ?_
    refine z_iload_n C d_X_unbind_14 rfl ?_
    refine z_callS C hKl (cX_pairOf (i) (k)) (zgood (fun _ h => h) tw_co_X_pairOf) rfl tw_ml_X_58 tw_st_X_pairOf tw_in_X pd_X_pairOf (by decide) rfl (Nat.le_of_ble_eq_true rfl) (by decide) d_X_unbind_15 (fun r σ hp => ?_)
    obtain ⟨rfl, rfl⟩ := hp
    refine z_aald C 3 rfl h2 (pr i k) (by omega) (by omega) (by decide) d_X_unbind_18 ?_
    rcases hx.b5 (p := pr i k) (by omega) with ⟨q1, q2⟩ | ⟨a, q1, q2⟩
    · rw [q1, show va_rf none = Value.null from rfl]
      refine z_ifnonnullN C d_X_unbind_19 ?_
      refine z_iconst C d_X_unbind_22 ?_
      exact z_iret C d_X_unbind_23 (by decide) (by decide) (by rw [show sp_unbind s i k = (-1, s) from if_pos (by omega)]; exact ⟨rfl, xP.of hx xfr.rf⟩)
    · rw [q1, show va_rf (some a) = Value.ref a from rfl]
      refine z_ifnonnull C 24 d_X_unbind_19 (by decide) ?_
      refine z_aload_n C d_X_unbind_24 rfl ?_
      refine z_get C in_X (hX) rfl 1 (by decide) tw_fl_X_19 rfl rfl d_X_unbind_25 ?_
      refine z_iload_n C d_X_unbind_28 rfl ?_
      refine z_iload_n C d_X_unbind_29 rfl ?_
      refine z_callS C hKl (cX_pairOf (i) (k)) (zgood (fun _ h => h) tw_co_X_pairOf) rfl tw_ml_X_58 tw_st_X_pairOf tw_in_X pd_X_pairOf (by decide) rfl (Nat.le_of_ble_eq_true rfl) (by decide) d_X_unbind_30 (fun r σ hp => ?_)
      obtain ⟨rfl, rfl⟩ := hp
      refine z_null C d_X_unbind_33 ?_
      refine z_aastN C 3 rfl h2 (pr i k) (by omega) (by omega) (by decide) d_X_unbind_34 ?_
      refine z_iconst C d_X_unbind_35 ?_
      exact z_iret C d_X_unbind_36 (by decide) (by decide) (by
        rw [show sp_unbind s i k = (1, sup (sup (sup s 5 (pr i k) 0) 11 (pr i k) 0) 12 (pr i k) 0) from if_neg (by omega)]
        refine ⟨rfl, xP.of (hx.bnw (p := pr i k) (x := none) (s' := sup (sup (sup s 5 (pr i k) 0) 11 (pr i k) 0) 12 (pr i k) 0) (by omega) (fun f hf => ?_) (fun q hq hne => ?_) (fun q => ?_) (Or.inl ⟨by simp [va_up], ?_⟩)) (xfr.put hO.2.2.1)⟩
        · rw [sup_n (by omega), sup_n (by omega), sup_n (by omega)]
        · refine ⟨iup_n hne, rfl, rfl, rfl, fun j _ => ⟨rfl, rfl⟩, ?_⟩
          show iup (s 11) (pr i k) 0 q + iup (s 12) (pr i k) 0 q - 1 = s 11 q + s 12 q - 1
          rw [iup_n hne, iup_n hne]
        · show -1 ≤ iup (s 11) (pr i k) 0 q + iup (s 12) (pr i k) 0 q - 1 ∧ iup (s 11) (pr i k) 0 q + iup (s 12) (pr i k) 0 q - 1 ≤ 200
          have hq1 := hI.kp q
          have hq2 := hI.md
          unfold kpt at hq1
          by_cases c : q = pr i k
          · rw [c, iup_s, iup_s]; omega
          · rw [iup_n c, iup_n c]; omega
        · exact iup_s _ _ _)
set_option maxRecDepth 100000 in
set_option maxHeartbeats 4000000 in
theorem cX_close  (hI : Inv s) (hx : xG cI cZ cJ cB X O bnd mkr g s (fun q => kpt s q - 1) (fun _ => 0) σ)  : zM l D vwCl A (ztys cI cZ cJ cB) (zF A X) y_X_close ws_X_close (zroom 1 0 0) [.ref (X 0)] σ (fun r σ' => r = some (iv (sp_close s).1) ∧ xP cI cZ cJ cB X O σ (sp_close s).2 σ') := by
  refine zMet2 (zF_ok A X) (by decide) (Nat.le_of_ble_eq_true rfl) (fun K hKl C => ?_)
  obtain ⟨hO, hX, h1, h2, h3, h4, h5, hB, hBf, hbn, hmk, hvl, hwk, hkp, hk1, hk2, hk3⟩ := id hx
  have hop := hI.op
  have hcz := cntz_r (s 12) 36
  have loop : s 15 0 ≠ 0 → ∀ (n q : Nat) (σ1 : zh), q + n = 36 → xG cI cZ cJ cB X O bnd mkr g s (ck s q) (fun _ => 0) σ1 → xF O σ σ1 → ∀ a5 : Option Value, zJ K D vwCl A 6 (zQ K D vwCl A (fun r σ' => r = some (iv (sp_close s).1) ∧ xP cI cZ cJ cB X O σ (sp_close s).2 σ') 0 0) 0 0 σ1 26 [some (.ref (X 0)), some (iv (cntz (s 12) 36)), some (.ref (X 2)), some (iv 36), some (iv (q : Int)), a5] [] := by
    intro hopen n
    induction n with
    | zero =>
      intro q σ1 hq hx1 hF1 a5
      have e : q = 36 := by omega
      subst e
      refine z_iload C d_X_close_26 rfl ?_
      refine z_iload_n C d_X_close_28 rfl ?_
      refine z_icmp_ge C 64 (by omega) (by omega) d_X_close_29 (by decide) (fun h29 => ?_) (fun h29 => absurd h29 (by omega))
      refine z_aload_n C d_X_close_64 rfl ?_
      refine z_iconst C d_X_close_65 ?_
      refine z_put C in_X t_X tk_X nm_X hx1.2.1 rfl 8 (by decide) tw_fl_X_80 rfl rfl (tk_X 8 (by decide)) rfl rfl (Nat.le_of_ble_eq_true rfl) d_X_close_66 ?_
      refine z_eq (σ' := zput σ1 (X 0) (ob 2 (xfs X (sup s 15 0 0)))) rfl rfl rfl ?_
      refine z_iload_n C d_X_close_69 rfl ?_
      exact z_iret C d_X_close_70 (by decide) (by decide) (by
        rw [show sp_close s = (cntz (s 12) 36, srow (sup s 15 0 0) 12 (zer (s 12) 36)) from if_neg hopen]
        have hx2 := hx1.o15 0
        rw [← ck_end s] at hx2
        exact ⟨rfl, xP.of (hx2.sq2 (fun f hf => srow_n (by omega)) (fun i hi => ⟨rfl, rfl, rfl, rfl⟩) (fun j hj => ⟨rfl, rfl, rfl⟩)) (hF1.1.tr (xfr.put hx1.1.1))⟩)
    | succ n ih =>
      intro q σ1 hq hx1 hF1 a5
      refine z_iload C d_X_close_26 rfl ?_
      refine z_iload_n C d_X_close_28 rfl ?_
      refine z_icmp_ge C 64 (by omega) (by omega) d_X_close_29 (by decide) (fun h29 => absurd h29 (by omega)) (fun h29 => ?_)
      refine z_aload_n C d_X_close_32 rfl ?_
      refine z_iload C d_X_close_33 rfl ?_
      refine z_aald C 3 rfl hx1.2.2.2.1 q rfl (by omega) (by decide) d_X_close_35 ?_
      rcases hq : bnd q with _ | a
      · rw [show va_rf none = Value.null from rfl]
        refine z_astoreN C d_X_close_36 (by decide) ?_
        refine z_aloadN C d_X_close_38 rfl ?_
        refine z_ifnullN C 58 d_X_close_40 (by decide) ?_
        refine z_iinc C d_X_close_58 rfl (by decide) ?_
        refine z_goto C 26 d_X_close_61 (by decide) ?_
        have h0 : s 12 q = 0 := by
          rcases hx.b5 (p := q) (by omega) with z | ⟨a, z, -⟩
          · have h12 := hI.re2 (p := q)
            have z2 := z.2
            apply Classical.byContradiction
            intro h; have := (h12 h).1; omega
          · rw [hq] at z; cases z
        rw [← ck_keep h0] at hx1
        have j := ih (q + 1) σ1 (by omega) hx1 hF1 (some .null)
        rw [show ((q + 1 : Nat) : Int) = (q : Int) + 1 from by omega] at j
        exact j
      · rw [show va_rf (some a) = Value.ref a from rfl]
        obtain ⟨kd, nd, con, sc, hOa, ha, hsc⟩ : ∃ (kd nd : Nat) (con sc : Int), O a ∧ σ1 a = some (ob 0 [.ref kd, iv ((q / 12 : Nat) : Int), iv ((q % 12 : Nat) : Int), iv con, iv sc, .ref nd, iv (ck s q q), iv 0]) ∧ (0 ≤ sc ∧ sc ≤ 2 ∧ (sc = 2 → s 11 q = 0) ∧ (sc ≠ 2 → s 12 q = 0)) := by
          rcases hx1.2.2.2.2.2.2.2.2.2.1 q (by omega) with z | ⟨b, kd, con, sc, sz, kf, zf, z1, z2, z3⟩
          · rw [hq] at z; cases z.1
          · rw [hq] at z1
            cases z1
            obtain ⟨y1, nd, ka, la, y2, -⟩ := z2
            refine ⟨kd, nd, con, sc, y1, y2, ?_⟩
            have g3 := hI.sc q
            have h11 : s 11 q ≠ 0 → s 5 q = 3 ∧ s 7 q = 1 := hI.si2 (p := q)
            have h12 : s 12 q ≠ 0 → s 5 q = 3 ∧ s 7 q = 2 := fun h => ⟨(hI.re2 h).1, (hI.re2 h).2.1⟩
            have z5 : sc = (if s 5 q = 3 then s 7 q else 0) := by
              rcases z3 with z | z | z
              · rw [if_neg (by have := z.1; omega)]; exact z.2.2.2.1
              · rw [if_neg (by have := z.1; omega)]; exact z.2.2.1
              · rw [if_pos z.1]; exact z.2.2.1
            split at z5 <;> omega
        refine z_astore C d_X_close_36 (by decide) ?_
        refine z_aload C d_X_close_38 rfl ?_
        refine z_ifnull C d_X_close_40 ?_
        refine z_aload C d_X_close_43 rfl ?_
        refine z_getN C in_B (ha) rfl 4 (by decide) nl_88 rfl rfl d_X_close_45 ?_
        refine z_iconst C d_X_close_48 ?_
        refine z_icmp_ne C 58 (by omega) (by omega) d_X_close_49 (by decide) (fun h49 => ?_) (fun h49 => ?_)
        · refine z_iinc C d_X_close_58 rfl (by decide) ?_
          refine z_goto C 26 d_X_close_61 (by decide) ?_
          rw [← ck_keep (hsc.2.2.2 (by omega))] at hx1
          have j := ih (q + 1) σ1 (by omega) hx1 hF1 (some (.ref a))
          rw [show ((q + 1 : Nat) : Int) = (q : Int) + 1 from by omega] at j
          exact j
        · refine z_aload C d_X_close_52 rfl ?_
          refine z_iconst C d_X_close_54 ?_
          refine x_kept C hx1 (by omega) hq ha (by omega) rfl hOa d_X_close_55 (fun σ2 hx2 hF2 => ?_)
          rw [ck_drop (hsc.2.2.1 (by omega))] at hx2
          refine z_iinc C d_X_close_58 rfl (by decide) ?_
          refine z_goto C 26 d_X_close_61 (by decide) ?_
          have j := ih (q + 1) σ2 (by omega) hx2 (hF1.tr hF2) (some (.ref a))
          rw [show ((q + 1 : Nat) : Int) = (q : Int) + 1 from by omega] at j
          exact j
  refine z_aload_n C d_X_close_0 rfl ?_
  refine z_get C in_X (hX) rfl 8 (by decide) tw_fl_X_80 rfl rfl d_X_close_1 ?_
  refine z_if_ne C 9 (by omega) d_X_close_4 (by decide) (fun h4 => ?_) (fun h4 => ?_)
  · refine z_aload_n C d_X_close_9 rfl ?_
    refine z_iconst C d_X_close_10 ?_
    refine z_callV C hKl (cX_countKept 2 12 (Or.inr ⟨rfl, rfl⟩) hI hx) (zgood (fun _ h => h) tw_co_X_countKept) rfl (hX) rfl tw_ml_X_84 tw_im_X_countKept tw_se_X_countKept tw_in_X pd_X_countKept (by decide) rfl (Nat.le_of_ble_eq_true rfl) (by decide) d_X_close_11 (fun r σ hp => ?_)
    obtain ⟨rfl, rfl⟩ := hp
    refine z_istore_n C d_X_close_14 (by decide) ?_
    refine z_aload_n C d_X_close_15 rfl ?_
    refine z_get C in_X (hX) rfl 1 (by decide) tw_fl_X_19 rfl rfl d_X_close_16 ?_
    refine z_astore_n C d_X_close_19 (by decide) ?_
    refine z_aload_n C d_X_close_20 rfl ?_
    refine z_alen C 3 rfl h2 36 rfl d_X_close_21 ?_
    refine z_istore_n C d_X_close_22 (by decide) ?_
    refine z_iconst C d_X_close_23 ?_
    refine z_istore C d_X_close_24 (by decide) ?_
    exact loop (by omega) 36 0 _ (by omega) (by rw [ck_0]; exact hx) xF.rf none
  · refine z_iconst C d_X_close_7 ?_
    exact z_iret C d_X_close_8 (by decide) (by decide) (by rw [show sp_close s = (-1, s) from if_pos (by omega)]; exact ⟨rfl, xP.of hx xfr.rf⟩)
end XC8
end
section
/-! what is made anew -/
theorem zput_zput (σ : zh) (a : Nat) (x y : va_E) : zput (zput σ a x) a y = zput σ a y := by
  funext b
  by_cases e : b = a
  · subst e; rw [zput_s, zput_s]
  · rw [zput_n e, zput_n e, zput_n e]
theorem zput_back {σ : zh} {a : Nat} {e e0 : va_E} (h : σ a = some e) : zput (zput σ a e0) a e = σ := by
  rw [zput_zput]
  funext b
  by_cases c : b = a
  · subst c; rw [zput_s, h]
  · rw [zput_n c]
theorem z_callINw {K : zC} {D : va_G} {cl : List vw_C} {A : Nat → Prop} {tys : List (ClassId × FieldType)} {F : State → Prop} {rm : Room} {cc : ByteArray} {own nm : String} {Ts : List Cond} {nL : Nat} {ret : Option FieldType} {Q : State → Prop} {cells slots pc : Nat} {σ : zh} {lv : List (Option Value)} {st : List Value} (C : zCx K D cl A tys F rm cc own nm Ts nL ret) {l : Launch} {y : MethodName} {ws ws' : List Cond} {rm2 : Room} {As : List Value} {post : Option Value → zh → Prop} {bytes : ByteArray} {maxL index n : Nat} (hKl : K.2.1 = l) {b : Nat} (hM : zM l D cl A tys F y ws rm2 (.ref b :: As) σ post) (hG0 : GoodIn Ts ws) (hw : ws = Cond.code y bytes maxL none :: ws') {host : String} (hli : ∀ s : State, F s → va_Nw (.methodLinkNest own index y host) s) (hins : Cond.instanceMethod y ∈ Ts) (hini : Cond.initialized y.cls ∈ Ts) (hnm : y.name = "<init>") (hd0 : y.cls ≠ "java/lang/invoke/MethodHandle" ∧ y.cls ≠ "java/lang/invoke/VarHandle" ∧ (parseMethodDescriptor y.desc).map (fun d => d.parameters.length) = some n) (hR2 : rm2.frames + 1 ≤ rm.frames ∧ 16 + (maxL + 11) + rm2.locals ≤ rm.locals) (hn : As.length = n) (hst : (st.map fun v => v.category).sum ≤ 16) (hf : cells + rm2.cells ≤ rm.cells ∧ slots + rm2.slots ≤ rm.slots) (hd : decode cc pc = .ok (.invokespecial index, 3)) (kk : ∀ (r : Option Value) (σ' : zh), post r σ' → zJ K D cl A nL Q (cells + rm2.cells) (slots + rm2.slots) (σ') (pc + 3) (lv) (r.toList ++ st)) : zJ K D cl A nL Q (cells) (slots) (σ) (pc) (lv) (As.reverse ++ .ref b :: st) := by
  obtain ⟨p, l, e, R, s, m, args, below, meth, c⟩ := K
  intro H locs ls hG hS hL
  have hR : R = rm := C.2.2.2.2.2.2.2.2.2.2.1
  have hml : c.maxLocals = nL := C.2.2.1
  subst hKl
  have hF : zFok F A := C.2.2.2.2.2.2.2.2.2.2.2.1
  have hp := fun vals => zPc_ok (vals := vals) hF C.2.2.2.2.2.2.2.2.1 C.2.2.2.2.2.2.2.1 C.2.2.2.2.2.2.2.2.2.1 hG hS
  have hcn := va_cnB (R := R) (host := host) n C.2.2.2.2.1 hG0 hw rfl rfl (hli s C.2.2.2.2.2.2.2.2.2.1) (C.2.2.2.2.1 _ hini) hd0 (by rw [hR]; exact ⟨hR2.1, by omega⟩)
  obtain ⟨⟨hrc, hrs, hfr, -, hws, hcw⟩, hcode, hini2, hy, hlen, hl⟩ := hcn
  have hK := back_of (W := 16) (R := R) (p := p) (e := e) (below := below) (sargs := args) (len := 3) (bytes := bytes) (maxL := maxL) (ret := none) hM (hp (.ref b :: As)).1 hrc hrs hfr (by rw [hR]; exact hR2.2) hws hcw (fun a' U hW => word_at hW (Or.inl (by first | rfl | simp [Cond.onTables, Cond.keeps, Cond.steady])) hini2)
  have hPc := (hp (.ref b :: As)).2
  refine z_run hS hL (a := (Value.ref b :: As).toArray) ?_ kk
  intro T hT X
  obtain ⟨v, vm₁, ⟨U', l2, c2, s2⟩, hW₁, X', ⟨g', mk, t, L, e1, e2, hq, h1, hL', h2, h3⟩, stp⟩ := va_callIN X C.1 (bytes := bytes) (maxL := maxL) C.2.2.2.1 hnm hl (C.2.2.2.2.1 _ hins) hcode hy hK (g := F0 m pc ls (As.reverse ++ .ref b :: st)) rfl (hL.1.trans hml.symm) (a := b) (argsL := As) (rest := st) (fun sig h => hn.trans (hlen sig h)) rfl (by show 2 * 0 + _ ≤ 16; omega) (by rw [C.2.1]; exact hd)
    (fun vm₁ hW₁ => ⟨by rw [hR]; exact hf.1, by rw [hR]; exact hf.2, hPc (T.setVm vm₁) hT hW₁⟩)
  dsimp only [Pt.U, Pt.locs, Pt.cells, Pt.slots] at X' e1 e2 h1 h2 h3 stp
  subst h1; subst h2; subst h3
  exact ⟨v, (T.setVm vm₁).calling g' mk (Value.ref b :: As).toArray, t, U', L, hT, X', hL', e1, e2, hq, stp⟩
section XC9
variable {l : Launch} {D : va_G} {A : Nat → Prop} {cI cZ cJ cB : ClassId} {X : Nat → Nat} {O : Nat → Prop} {bnd mkr : Nat → Option Nat} {g : Nat → Nat → Int} {σ : zh} {s : St} {kp wk : Nat → Int}
theorem NDk.mono2 {O' : Nat → Prop} {σ' : zh} {nd ka la : Nat} {sz : Int} {kf zf : Nat → Int} (h : NDk cI cZ O σ nd ka la sz kf zf) (hO : ∀ a, O a → O' a) (hh : ∀ b e, O b → σ b = some e → (∀ fs, e ≠ ob 2 fs) → σ' b = some e) : NDk cI cZ O' σ' nd ka la sz kf zf := by
  obtain ⟨k1, k2, k3, k4, k5⟩ := h
  exact ⟨⟨hO _ k1.1, hO _ k1.2.1, hO _ k1.2.2⟩, hh _ _ k1.1 k2 (fun _ h => (by cases h)), hh _ _ k1.2.1 k3 (fun _ h => (by cases h)), hh _ _ k1.2.2 k4 (fun _ h => (by cases h)), k5⟩
theorem xG.fr2 {O' : Nat → Prop} {σ' : zh} (hx : xG cI cZ cJ cB X O bnd mkr g s kp wk σ) (hO' : ∀ a, O a → O' a) (h : ∀ a e, O a → σ a = some e → σ' a = some e) : xG cI cZ cJ cB X O' bnd mkr g s kp wk σ' := by
  obtain ⟨hO, hX, h1, h2, h3, h4, h5, hB, hBf, hbn, hmk, hvl, hwk, hkp, hk⟩ := hx
  have tN : ∀ {nd ka la : Nat} {sz : Int} {kf zf : Nat → Int}, NDk cI cZ O σ nd ka la sz kf zf → NDk cI cZ O' σ' nd ka la sz kf zf := fun n => n.mono2 hO' (fun b e q1 q2 _ => h b e q1 q2)
  have tB : ∀ {b kd : Nat} {inj key con sc kept iw sz : Int} {kf zf : Nat → Int}, BB cI cZ X O σ b kd inj key con sc kept iw sz kf zf → BB cI cZ X O' σ' b kd inj key con sc kept iw sz kf zf := fun ⟨q1, nd, ka, la, q2, q3, q4⟩ => ⟨hO' _ q1, nd, ka, la, h _ _ q1 q2, tN q3, q4⟩
  refine ⟨⟨hO' _ hO.1, hO' _ hO.2.1, hO' _ hO.2.2.1, hO' _ hO.2.2.2.1, hO' _ hO.2.2.2.2.1, hO' _ hO.2.2.2.2.2⟩, h _ _ hO.1 hX, h _ _ hO.2.1 h1, h _ _ hO.2.2.1 h2, h _ _ hO.2.2.2.1 h3, h _ _ hO.2.2.2.2.1 h4, h _ _ hO.2.2.2.2.2 h5, ⟨tN hB.1, hB.2⟩, hBf, fun p hp => ?_, fun i hi => ?_, hvl, hwk, hkp, hk⟩
  · rcases hbn p hp with z | ⟨a, kd, con, sc, sz, kf, zf, z1, z2, z3⟩
    · exact Or.inl z
    · exact Or.inr ⟨a, kd, con, sc, sz, kf, zf, z1, tB z2, z3⟩
  · obtain ⟨a, kd, con, kept, iw, kf, zf, z1, z2, z3⟩ := hmk i hi
    exact ⟨a, kd, con, kept, iw, kf, zf, z1, tB z2, z3⟩
/-- a new, empty buffer -/
theorem xG.nbuf {O' : Nat → Prop} {σ' : zh} {nd ka la : Nat} (hx : xG cI cZ cJ cB X O bnd mkr g s kp wk σ) (hO' : ∀ a, O a → O' a) (n6 : O' nd ∧ O' ka ∧ O' la) (h : ∀ b e, O b → σ b = some e → (∀ fs, e ≠ ob 2 fs) → σ' b = some e) (fresh : ∀ b e, σ b = some e → b ≠ nd ∧ b ≠ ka ∧ b ≠ la) (h0 : σ' (X 0) = some (ob 2 (xfs (nup (nup (nup X 6 nd) 7 ka) 8 la) (sup s 4 0 0)))) (h6 : σ' nd = some (ob 1 [.ref ka, .ref la, iv 0])) (h7 : σ' ka = some (ia cI 4 (fun _ => 0))) (h8 : σ' la = some (ia cZ 4 (fun _ => 0))) (hne : ka ≠ la) : xG cI cZ cJ cB (nup (nup (nup X 6 nd) 7 ka) 8 la) O' bnd mkr (srow (srow g 2 (fun _ => 0)) 3 (fun _ => 0)) (sup s 4 0 0) kp wk σ' := by
  obtain ⟨hO, hX, h1, h2, h3, h4, h5, hB, hBf, hbn, hmk, hvl, hwk, hkp, hk⟩ := hx
  have tN : ∀ {nd ka la : Nat} {sz : Int} {kf zf : Nat → Int}, NDk cI cZ O σ nd ka la sz kf zf → NDk cI cZ O' σ' nd ka la sz kf zf := fun n => n.mono2 hO' h
  have tB : ∀ {b kd : Nat} {inj key con sc kept iw sz : Int} {kf zf : Nat → Int}, BB cI cZ X O σ b kd inj key con sc kept iw sz kf zf → BB cI cZ (nup (nup (nup X 6 nd) 7 ka) 8 la) O' σ' b kd inj key con sc kept iw sz kf zf := fun ⟨q1, nd, ka, la, q2, q3, q4⟩ => ⟨hO' _ q1, nd, ka, la, h _ _ q1 q2 (fun _ h => (by cases h)), tN q3, (fresh _ _ q3.2.1).1, (fresh _ _ q3.2.2.1).2.1, (fresh _ _ q3.2.2.1).2.2, (fresh _ _ q3.2.2.2.1).2.1, (fresh _ _ q3.2.2.2.1).2.2⟩
  refine ⟨⟨hO' _ hO.1, hO' _ hO.2.1, hO' _ hO.2.2.1, hO' _ hO.2.2.2.1, hO' _ hO.2.2.2.2.1, hO' _ hO.2.2.2.2.2⟩, h0, h _ _ hO.2.1 h1 (fun _ h => (by cases h)), h _ _ hO.2.2.1 h2 (fun _ h => (by cases h)), h _ _ hO.2.2.2.1 h3 (fun _ h => (by cases h)), h _ _ hO.2.2.2.2.1 h4 (fun _ h => (by cases h)), h _ _ hO.2.2.2.2.2 h5 (fun _ h => (by cases h)), ⟨⟨n6, h6, h7, h8, by show (0 : Int) ≤ 0 ∧ (0 : Int) ≤ 4; omega, fun _ => by show (0 : Int) ≤ 0 ∧ (0 : Int) ≤ 11; omega, fun _ => Or.inl rfl⟩, hne⟩, fun j hj => absurd hj (by show ¬ (j : Int) < 0; omega), fun p hp => ?_, fun i hi => ?_, hvl, hwk, hkp, hk⟩
  · rcases hbn p hp with z | ⟨a, kd, con, sc, sz, kf, zf, z1, z2, z3⟩
    · exact Or.inl z
    · exact Or.inr ⟨a, kd, con, sc, sz, kf, zf, z1, tB z2, z3⟩
  · obtain ⟨a, kd, con, kept, iw, kf, zf, z1, z2, z3⟩ := hmk i hi
    exact ⟨a, kd, con, kept, iw, kf, zf, z1, tB z2, z3⟩
/-- a new binding with needs of its own -/
theorem xP.bind (hI : Inv s) (hx : xG cI cZ cJ cB X O bnd mkr g s (fun q => kpt s q - 1) (fun _ => 0) σ) {s' : St} {σ' : zh} {p a nd ka la kd : Nat} {con sc sz : Int} {kf zf : Nat → Int} (hp : p < 36) (h5 : s 5 p = 0) (hold : ∀ b e, σ b = some e → σ' b = some e ∧ b ≠ a ∧ b ≠ nd ∧ b ≠ ka ∧ b ≠ la) (ha : σ' a = some (ob 0 [.ref kd, iv ((p / 12 : Nat) : Int), iv ((p % 12 : Nat) : Int), iv con, iv sc, .ref nd, iv (-1), iv 0])) (hn1 : σ' nd = some (ob 1 [.ref ka, .ref la, iv sz])) (hk1 : σ' ka = some (ia cI 4 kf)) (hl1 : σ' la = some (ia cZ 4 zf)) (r1 : 0 ≤ sz ∧ sz ≤ 4) (r2 : ∀ j, 0 ≤ kf j ∧ kf j ≤ 11) (r3 : ∀ j, zf j = 0 ∨ zf j = 1) (hs : ∀ f, f ≠ 5 → f ≠ 6 → s' f = s f) (hn : ∀ q, q ≠ p → s' 5 q = s 5 q ∧ s' 6 q = s 6 q) (hbk : BK X s' p kd con sc sz kf zf) : xP cI cZ cJ cB X O σ s' (zput σ' (X 2) (ra cB 36 (va_up bnd p (some a)))) := by
  have e11 : s 11 p = 0 := by
    apply Classical.byContradiction
    intro c
    have := (hI.si2 c).1
    omega
  have e12 : s 12 p = 0 := by
    apply Classical.byContradiction
    intro c
    have := (hI.re2 c).1
    omega
  have ekp : ∀ q, kpt s' q = kpt s q := fun q => by unfold kpt; rw [hs 11 (by decide) (by decide), hs 12 (by decide) (by decide)]
  have hx4 := hx.fr2 (O' := fun b => O b ∨ b = a ∨ b = nd ∨ b = ka ∨ b = la) (σ' := σ') (fun b h => Or.inl h) (fun b e _ q => (hold b e q).1)
  have hO2 := hx.1.2.2.1
  obtain ⟨b1, b2, b3, b4, b5⟩ := hx.2.2.2.2.2.2.2.1.1
  refine ⟨X, _, rfl, rfl, rfl, rfl, ⟨_, mkr, g, hx4.bnw (kp' := fun q => kpt s' q - 1) hp (fun f hf => hs f (by omega) (by omega)) (fun q hq hne => ⟨(hn q hne).1, (hn q hne).2, by rw [hs 7 (by decide) (by decide)], by rw [hs 8 (by decide) (by decide)], fun j _ => ⟨by rw [hs 9 (by decide) (by decide)], by rw [hs 10 (by decide) (by decide)]⟩, by show kpt s' q - 1 = kpt s q - 1; rw [ekp q]⟩) (fun q => ?_) (Or.inr ⟨a, kd, con, sc, sz, kf, zf, by simp [va_up], BB.off ⟨Or.inr (Or.inl rfl), nd, ka, la, ?_, ⟨⟨Or.inr (Or.inr (Or.inl rfl)), Or.inr (Or.inr (Or.inr (Or.inl rfl))), Or.inr (Or.inr (Or.inr (Or.inr rfl)))⟩, hn1, hk1, hl1, r1, r2, r3⟩, ?_⟩ hx4.2.2.2.1 xoff_ra, hbk⟩)⟩, fun b e q1 q2 => ?_⟩
  · have := hI.kp q
    have := hI.md
    rw [ekp q]
    omega
  · show σ' a = some (ob 0 [.ref kd, iv ((p / 12 : Nat) : Int), iv ((p % 12 : Nat) : Int), iv con, iv sc, .ref nd, iv (kpt s' p - 1), iv 0])
    rw [ha, ekp p, show kpt s p = 0 from by unfold kpt; omega]
    rfl
  · have f6 := (hold _ _ b2).2
    have f7 := (hold _ _ b3).2
    have f8 := (hold _ _ b4).2
    exact ⟨Ne.symm f6.2.1, Ne.symm f7.2.2.1, Ne.symm f8.2.2.1, Ne.symm f7.2.2.2, Ne.symm f8.2.2.2⟩
  · have q3 := hold b e q1
    refine ⟨?_, fun z => ?_⟩
    · rw [zput_n (fun z => q2 (by rw [z]; exact hO2))]
      exact q3.1
    · rcases z with z | z | z | z | z
      · exact q2 z
      · exact q3.2.1 z
      · exact q3.2.2.1 z
      · exact q3.2.2.2.1 z
      · exact q3.2.2.2.2 z
set_option maxRecDepth 100000 in
set_option maxHeartbeats 4000000 in
theorem cN_init {nd : Nat} (h0 : σ nd = some (ob 1 [.null, .null, .int 0])) : zM l D vwCl A (ztys cI cZ cJ cB) (zF A X) y_N_init ws_N_init (zroom 0 2 8) [.ref nd] σ (fun r σ' => r = none ∧ ∃ ka la, ka ≠ la ∧ nd ≠ ka ∧ nd ≠ la ∧ (∀ b x, σ b = some x → b ≠ ka ∧ b ≠ la) ∧ σ' nd = some (ob 1 [.ref ka, .ref la, iv 0]) ∧ σ' ka = some (ia cI 4 (fun _ => 0)) ∧ σ' la = some (ia cZ 4 (fun _ => 0)) ∧ ∀ b, b ≠ nd → b ≠ ka → b ≠ la → σ' b = σ b) := by
  refine zMet2 (zF_ok A X) (by decide) (Nat.le_of_ble_eq_true rfl) (fun K hKl C => ?_)
  refine z_aload_n C d_N_init_0 rfl ?_
  refine z_oinit C tw_ml_N_3 tw_im_oinit tw_co_oinit d_N_init_1 (by decide) (by decide) (by decide) ?_
  refine z_aload_n C d_N_init_4 rfl ?_
  refine z_iconst C d_N_init_5 ?_
  refine z_newi C 0 rfl tw_ac_int rfl 4 rfl (by decide) (by decide) (by decide) d_N_init_6 (fun ka hka => ?_)
  have hnk : nd ≠ ka := hka _ _ h0
  have u1 : (zput σ ka (ia cI 4 (fun _ => 0))) nd = some (ob 1 [.null, .null, .int 0]) := by rw [zput_n hnk]; exact h0
  refine z_putF C in_N t_N tk_N nm_N u1 rfl 0 (by decide) tw_fl_N_9 rfl rfl rfl (tk_N 0 (by decide)) rfl rfl (Nat.le_of_ble_eq_true rfl) d_N_init_8 ?_
  refine z_eq (σ' := zput (zput σ ka (ia cI 4 (fun _ => 0))) nd (ob 1 [.ref ka, .null, .int 0])) rfl rfl rfl ?_
  refine z_aload_n C d_N_init_11 rfl ?_
  refine z_iconst C d_N_init_12 ?_
  refine z_newz C 1 rfl tw_ac_boolean rfl 4 rfl (by decide) (by decide) (by decide) d_N_init_13 (fun la hla => ?_)
  have hnl : nd ≠ la := hla _ _ (zput_s _ _ _)
  have hkl : ka ≠ la := hla ka (ia cI 4 (fun _ => 0)) (by rw [zput_n (Ne.symm hnk), zput_s])
  have u2 : (zput (zput (zput σ ka (ia cI 4 (fun _ => 0))) nd (ob 1 [.ref ka, .null, .int 0])) la (ia cZ 4 (fun _ => 0))) nd = some (ob 1 [.ref ka, .null, .int 0]) := by rw [zput_n hnl, zput_s]
  refine z_putF C in_N t_N tk_N nm_N u2 rfl 1 (by decide) tw_fl_N_15 rfl rfl rfl (tk_N 1 (by decide)) rfl rfl (Nat.le_of_ble_eq_true rfl) d_N_init_15 ?_
  refine z_eq (σ' := zput (zput (zput (zput σ ka (ia cI 4 (fun _ => 0))) nd (ob 1 [.ref ka, .null, .int 0])) la (ia cZ 4 (fun _ => 0))) nd (ob 1 [.ref ka, .ref la, iv 0])) rfl rfl rfl ?_
  exact z_vret C d_N_init_18 (by decide) (by decide) (by
    refine ⟨rfl, ka, la, hkl, hnk, hnl, fun b x hb => ⟨hka b x hb, ?_⟩, zput_s _ _ _, ?_, ?_, fun b q1 q2 q3 => ?_⟩
    · by_cases c : b = nd
      · rw [c]; exact hnl
      · exact hla b x (by rw [zput_n c, zput_n (hka b x hb)]; exact hb)
    · rw [zput_n (Ne.symm hnk), zput_n hkl, zput_n (Ne.symm hnk), zput_s]
    · rw [zput_n (Ne.symm hnl), zput_s]
    · rw [zput_n q1, zput_n q3, zput_n q1, zput_n q2])
set_option maxRecDepth 100000 in
set_option maxHeartbeats 4000000 in
theorem cB_init {a kd nd : Nat} (inj key con sc : Int) (h0 : σ a = some (ob 0 [.null, .int 0, .int 0, .int 0, .int 0, .null, .int 0, .int 0])) : zM l D vwCl A (ztys cI cZ cJ cB) (zF A X) y_B_init ws_B_init (zroom 0 0 0) [.ref a, .ref kd, iv inj, iv key, iv con, iv sc, .ref nd] σ (fun r σ' => r = none ∧ σ' = zput σ a (ob 0 [.ref kd, iv inj, iv key, iv con, iv sc, .ref nd, iv (-1), iv 0])) := by
  refine zMet2 (zF_ok A X) (by decide) (Nat.le_of_ble_eq_true rfl) (fun K hKl C => ?_)
  refine z_aload_n C d_B_init_0 rfl ?_
  refine z_oinit C tw_ml_B_3 tw_im_oinit tw_co_oinit d_B_init_1 (by decide) (by decide) (by decide) ?_
  refine z_aload_n C d_B_init_4 rfl ?_
  refine z_aload_n C d_B_init_5 rfl ?_
  refine z_putF C in_B t_B tk_B nm_B h0 rfl 0 (by decide) tw_fl_B_9 rfl rfl rfl (tk_B 0 (by decide)) rfl rfl (Nat.le_of_ble_eq_true rfl) d_B_init_6 ?_
  refine z_eq (σ' := zput σ a (ob 0 [.ref kd, .int 0, .int 0, .int 0, .int 0, .null, .int 0, .int 0])) rfl rfl rfl ?_
  refine z_aload_n C d_B_init_9 rfl ?_
  refine z_iload_n C d_B_init_10 rfl ?_
  refine z_putF C in_B t_B tk_B nm_B (zput_s _ _ _) rfl 1 (by decide) tw_fl_B_15 rfl rfl rfl (tk_B 1 (by decide)) rfl rfl (Nat.le_of_ble_eq_true rfl) d_B_init_11 ?_
  refine z_eq (σ' := zput σ a (ob 0 [.ref kd, iv inj, .int 0, .int 0, .int 0, .null, .int 0, .int 0])) rfl rfl (zput_zput _ _ _ _) ?_
  refine z_aload_n C d_B_init_14 rfl ?_
  refine z_iload_n C d_B_init_15 rfl ?_
  refine z_putF C in_B t_B tk_B nm_B (zput_s _ _ _) rfl 2 (by decide) tw_fl_B_19 rfl rfl rfl (tk_B 2 (by decide)) rfl rfl (Nat.le_of_ble_eq_true rfl) d_B_init_16 ?_
  refine z_eq (σ' := zput σ a (ob 0 [.ref kd, iv inj, iv key, .int 0, .int 0, .null, .int 0, .int 0])) rfl rfl (zput_zput _ _ _ _) ?_
  refine z_aload_n C d_B_init_19 rfl ?_
  refine z_iload C d_B_init_20 rfl ?_
  refine z_putF C in_B t_B tk_B nm_B (zput_s _ _ _) rfl 3 (by decide) tw_fl_B_22 rfl rfl rfl (tk_B 3 (by decide)) rfl rfl (Nat.le_of_ble_eq_true rfl) d_B_init_22 ?_
  refine z_eq (σ' := zput σ a (ob 0 [.ref kd, iv inj, iv key, iv con, .int 0, .null, .int 0, .int 0])) rfl rfl (zput_zput _ _ _ _) ?_
  refine z_aload_n C d_B_init_25 rfl ?_
  refine z_iload C d_B_init_26 rfl ?_
  refine z_putF C in_B t_B tk_B nm_B (zput_s _ _ _) rfl 4 (by decide) tw_fl_B_25 rfl rfl rfl (tk_B 4 (by decide)) rfl rfl (Nat.le_of_ble_eq_true rfl) d_B_init_28 ?_
  refine z_eq (σ' := zput σ a (ob 0 [.ref kd, iv inj, iv key, iv con, iv sc, .null, .int 0, .int 0])) rfl rfl (zput_zput _ _ _ _) ?_
  refine z_aload_n C d_B_init_31 rfl ?_
  refine z_aload C d_B_init_32 rfl ?_
  refine z_putF C in_B t_B tk_B nm_B (zput_s _ _ _) rfl 5 (by decide) tw_fl_B_28 rfl rfl rfl (tk_B 5 (by decide)) rfl rfl (Nat.le_of_ble_eq_true rfl) d_B_init_34 ?_
  refine z_eq (σ' := zput σ a (ob 0 [.ref kd, iv inj, iv key, iv con, iv sc, .ref nd, .int 0, .int 0])) rfl rfl (zput_zput _ _ _ _) ?_
  refine z_aload_n C d_B_init_37 rfl ?_
  refine z_iconst C d_B_init_38 ?_
  refine z_put C in_B t_B tk_B nm_B (zput_s _ _ _) rfl 6 (by decide) tw_fl_B_32 rfl rfl (tk_B 6 (by decide)) rfl rfl (Nat.le_of_ble_eq_true rfl) d_B_init_39 ?_
  refine z_eq (σ' := zput σ a (ob 0 [.ref kd, iv inj, iv key, iv con, iv sc, .ref nd, iv (-1), iv 0])) rfl rfl (zput_zput _ _ _ _) ?_
  exact z_vret C d_B_init_42 (by decide) (by decide) (⟨rfl, rfl⟩)
end XC9
end
