/-! NAMES, by an own program out of the listing and the tables -/
def R_B : String := "InjectorTree$Binding"
def T_B : u_T := fun k => match k with
  | 0 => ("InjectorTree$Binding", "kind", "LInjectorTree$Kind;", true)
  | 1 => ("InjectorTree$Binding", "injector", "I", true)
  | 2 => ("InjectorTree$Binding", "key", "I", true)
  | 3 => ("InjectorTree$Binding", "constant", "I", true)
  | 4 => ("InjectorTree$Binding", "scope", "I", true)
  | 5 => ("InjectorTree$Binding", "needs", "LInjectorTree$Needs;", true)
  | 6 => ("InjectorTree$Binding", "kept", "I", false)
  | _ => ("InjectorTree$Binding", "inWork", "Z", false)
def t_B : Nat → FieldType := fun k => match k with
  | 0 => .object "InjectorTree$Kind"
  | 1 => .int
  | 2 => .int
  | 3 => .int
  | 4 => .int
  | 5 => .object "InjectorTree$Needs"
  | 6 => .int
  | _ => .boolean
theorem nm_B : ∀ a, a < 8 → ∀ b, b < 8 → a ≠ b → (T_B a).2.1 ≠ (T_B b).2.1 := by decide +kernel
theorem tk_B : ∀ k, k < 8 → parseFieldDescriptor (T_B k).2.2.1 = some (t_B k) := by decide +kernel
def R_N : String := "InjectorTree$Needs"
def T_N : u_T := fun k => match k with
  | 0 => ("InjectorTree$Needs", "keys", "[I", true)
  | 1 => ("InjectorTree$Needs", "lazy", "[Z", true)
  | _ => ("InjectorTree$Needs", "size", "I", false)
def t_N : Nat → FieldType := fun k => match k with
  | 0 => .array .int
  | 1 => .array .boolean
  | _ => .int
theorem nm_N : ∀ a, a < 3 → ∀ b, b < 3 → a ≠ b → (T_N a).2.1 ≠ (T_N b).2.1 := by decide +kernel
theorem tk_N : ∀ k, k < 3 → parseFieldDescriptor (T_N k).2.2.1 = some (t_N k) := by decide +kernel
def R_X : String := "InjectorTree"
def T_X : u_T := fun k => match k with
  | 0 => ("InjectorTree", "parents", "[I", true)
  | 1 => ("InjectorTree", "bindings", "[LInjectorTree$Binding;", true)
  | 2 => ("InjectorTree", "makers", "[LInjectorTree$Binding;", true)
  | 3 => ("InjectorTree", "values", "[J", true)
  | 4 => ("InjectorTree", "gathered", "[J", true)
  | 5 => ("InjectorTree", "buffer", "LInjectorTree$Needs;", false)
  | 6 => ("InjectorTree", "injectors", "I", false)
  | 7 => ("InjectorTree", "made", "I", false)
  | _ => ("InjectorTree", "requestOpen", "Z", false)
def t_X : Nat → FieldType := fun k => match k with
  | 0 => .array .int
  | 1 => .array (.object "InjectorTree$Binding")
  | 2 => .array (.object "InjectorTree$Binding")
  | 3 => .array .long
  | 4 => .array .long
  | 5 => .object "InjectorTree$Needs"
  | 6 => .int
  | 7 => .int
  | _ => .boolean
theorem nm_X : ∀ a, a < 9 → ∀ b, b < 9 → a ≠ b → (T_X a).2.1 ≠ (T_X b).2.1 := by decide +kernel
theorem tk_X : ∀ k, k < 9 → parseFieldDescriptor (T_X k).2.2.1 = some (t_X k) := by decide +kernel
def R_M : String := "InjectorTreeModel"
def T_M : u_T := fun k => match k with
  | 0 => ("InjectorTreeModel", "parent", "[I", true)
  | 1 => ("InjectorTreeModel", "injectors", "I", false)
  | 2 => ("InjectorTreeModel", "bufKey", "[I", true)
  | 3 => ("InjectorTreeModel", "bufLazy", "[Z", true)
  | 4 => ("InjectorTreeModel", "buffered", "I", false)
  | 5 => ("InjectorTreeModel", "kind", "[I", true)
  | 6 => ("InjectorTreeModel", "number", "[I", true)
  | 7 => ("InjectorTreeModel", "scope", "[I", true)
  | 8 => ("InjectorTreeModel", "needs", "[I", true)
  | 9 => ("InjectorTreeModel", "needKey", "[I", true)
  | 10 => ("InjectorTreeModel", "needLazy", "[Z", true)
  | 11 => ("InjectorTreeModel", "single", "[I", true)
  | 12 => ("InjectorTreeModel", "request", "[I", true)
  | 13 => ("InjectorTreeModel", "oldSingle", "[I", true)
  | 14 => ("InjectorTreeModel", "oldRequest", "[I", true)
  | 15 => ("InjectorTreeModel", "open", "Z", false)
  | 16 => ("InjectorTreeModel", "iKey", "[I", true)
  | 17 => ("InjectorTreeModel", "iInjector", "[I", true)
  | 18 => ("InjectorTreeModel", "iScope", "[I", true)
  | 19 => ("InjectorTreeModel", "iNeeds", "[I", true)
  | 20 => ("InjectorTreeModel", "iNeedKey", "[I", true)
  | 21 => ("InjectorTreeModel", "iLazy", "[Z", true)
  | 22 => ("InjectorTreeModel", "iValue", "[J", true)
  | 23 => ("InjectorTreeModel", "made", "I", false)
  | 24 => ("InjectorTreeModel", "pile", "[I", true)
  | 25 => ("InjectorTreeModel", "got", "[I", true)
  | 26 => ("InjectorTreeModel", "values", "[J", true)
  | _ => ("InjectorTreeModel", "top", "I", false)
def t_M : Nat → FieldType := fun k => match k with
  | 0 => .array .int
  | 1 => .int
  | 2 => .array .int
  | 3 => .array .boolean
  | 4 => .int
  | 5 => .array .int
  | 6 => .array .int
  | 7 => .array .int
  | 8 => .array .int
  | 9 => .array .int
  | 10 => .array .boolean
  | 11 => .array .int
  | 12 => .array .int
  | 13 => .array .int
  | 14 => .array .int
  | 15 => .boolean
  | 16 => .array .int
  | 17 => .array .int
  | 18 => .array .int
  | 19 => .array .int
  | 20 => .array .int
  | 21 => .array .boolean
  | 22 => .array .long
  | 23 => .int
  | 24 => .array .int
  | 25 => .array .int
  | 26 => .array .long
  | _ => .int
theorem nm_M : ∀ a, a < 28 → ∀ b, b < 28 → a ≠ b → (T_M a).2.1 ≠ (T_M b).2.1 := by decide +kernel
theorem tk_M : ∀ k, k < 28 → parseFieldDescriptor (T_M k).2.2.1 = some (t_M k) := by decide +kernel
abbrev vwCl : List vw_C := [(R_B, T_B, 8), (R_N, T_N, 3), (R_X, T_X, 9), (R_M, T_M, 28)]
def zw : List Cond := lw_tbl.filter goodWord
theorem zw_of {w : Cond} {i : Nat} (h : tables_1[i]? = some w) (g : goodWord w = true) : w ∈ zw := List.mem_filter.mpr ⟨List.mem_append_right _ (List.mem_of_getElem? h), g⟩
theorem zw_sel {q : MethodName × Nat} {i : Nat} (h : lw_privs[i]? = some q) : Cond.selects q.1.cls q.1 q.1 ∈ zw := List.mem_filter.mpr ⟨List.mem_append_left _ (List.mem_map.mpr ⟨q, List.mem_of_getElem? h, rfl⟩), rfl⟩
theorem zw_tbl {w : Cond} (h : w ∈ zw) : w ∈ lw_tbl := (List.mem_filter.mp h).1
theorem zw_good {w : Cond} (h : w ∈ zw) : (w.onTables && w.keeps) = true ∨ ∃ ty, w = .arrayClass ty := good_of_word (List.mem_filter.mp h).2
theorem zgood {Ts : List Cond} {c : Cond} (hT : ∀ w ∈ zw, w ∈ Ts) (hc : c ∈ zw) : GoodIn Ts (c :: zw) := fun w h => by
  rcases List.mem_cons.mp h with rfl | h
  · exact ⟨hT _ hc, zw_good hc⟩
  · exact ⟨hT _ h, zw_good h⟩
abbrev c_X_init : ByteArray := prog_1_method_1_code
abbrev y_X_init : MethodName := ⟨"InjectorTree", "<init>", "()V"⟩
theorem tw_co_X_init : Cond.code y_X_init c_X_init 1 none ∈ zw := zw_of (i := 14) (by decide +kernel) rfl
def ws_X_init : List Cond := Cond.code y_X_init c_X_init 1 none :: zw
abbrev c_N_init : ByteArray := prog_4_method_1_code
abbrev y_N_init : MethodName := ⟨"InjectorTree$Needs", "<init>", "()V"⟩
theorem tw_co_N_init : Cond.code y_N_init c_N_init 1 none ∈ zw := zw_of (i := 24) (by decide +kernel) rfl
def ws_N_init : List Cond := Cond.code y_N_init c_N_init 1 none :: zw
abbrev c_X_child : ByteArray := prog_1_method_2_code
abbrev y_X_child : MethodName := ⟨"InjectorTree", "child", "(I)I"⟩
theorem tw_co_X_child : Cond.code y_X_child c_X_child 3 (some .int) ∈ zw := zw_of (i := 73) (by decide +kernel) rfl
def ws_X_child : List Cond := Cond.code y_X_child c_X_child 3 (some .int) :: zw
abbrev c_X_isInjector : ByteArray := prog_1_method_19_code
abbrev y_X_isInjector : MethodName := ⟨"InjectorTree", "isInjector", "(I)Z"⟩
theorem tw_co_X_isInjector : Cond.code y_X_isInjector c_X_isInjector 2 (some .boolean) ∈ zw := zw_of (i := 77) (by decide +kernel) rfl
def ws_X_isInjector : List Cond := Cond.code y_X_isInjector c_X_isInjector 2 (some .boolean) :: zw
abbrev c_X_need : ByteArray := prog_1_method_3_code
abbrev y_X_need : MethodName := ⟨"InjectorTree", "need", "(IZ)I"⟩
theorem tw_co_X_need : Cond.code y_X_need c_X_need 3 (some .int) ∈ zw := zw_of (i := 81) (by decide +kernel) rfl
def ws_X_need : List Cond := Cond.code y_X_need c_X_need 3 (some .int) :: zw
abbrev c_X_isKey : ByteArray := prog_1_method_20_code
abbrev y_X_isKey : MethodName := ⟨"InjectorTree", "isKey", "(I)Z"⟩
theorem tw_co_X_isKey : Cond.code y_X_isKey c_X_isKey 1 (some .boolean) ∈ zw := zw_of (i := 84) (by decide +kernel) rfl
def ws_X_isKey : List Cond := Cond.code y_X_isKey c_X_isKey 1 (some .boolean) :: zw
abbrev c_N_append : ByteArray := prog_4_method_2_code
abbrev y_N_append : MethodName := ⟨"InjectorTree$Needs", "append", "(IZ)V"⟩
theorem tw_co_N_append : Cond.code y_N_append c_N_append 3 none ∈ zw := zw_of (i := 88) (by decide +kernel) rfl
def ws_N_append : List Cond := Cond.code y_N_append c_N_append 3 none :: zw
abbrev c_X_drop : ByteArray := prog_1_method_4_code
abbrev y_X_drop : MethodName := ⟨"InjectorTree", "drop", "()I"⟩
theorem tw_co_X_drop : Cond.code y_X_drop c_X_drop 2 (some .int) ∈ zw := zw_of (i := 92) (by decide +kernel) rfl
def ws_X_drop : List Cond := Cond.code y_X_drop c_X_drop 2 (some .int) :: zw
abbrev c_X_bindConstant : ByteArray := prog_1_method_5_code
abbrev y_X_bindConstant : MethodName := ⟨"InjectorTree", "bindConstant", "(III)I"⟩
theorem tw_co_X_bindConstant : Cond.code y_X_bindConstant c_X_bindConstant 4 (some .int) ∈ zw := zw_of (i := 96) (by decide +kernel) rfl
def ws_X_bindConstant : List Cond := Cond.code y_X_bindConstant c_X_bindConstant 4 (some .int) :: zw
abbrev c_X_isUnbound : ByteArray := prog_1_method_22_code
abbrev y_X_isUnbound : MethodName := ⟨"InjectorTree", "isUnbound", "(II)Z"⟩
theorem tw_co_X_isUnbound : Cond.code y_X_isUnbound c_X_isUnbound 3 (some .boolean) ∈ zw := zw_of (i := 100) (by decide +kernel) rfl
def ws_X_isUnbound : List Cond := Cond.code y_X_isUnbound c_X_isUnbound 3 (some .boolean) :: zw
abbrev c_X_isPair : ByteArray := prog_1_method_21_code
abbrev y_X_isPair : MethodName := ⟨"InjectorTree", "isPair", "(II)Z"⟩
theorem tw_co_X_isPair : Cond.code y_X_isPair c_X_isPair 3 (some .boolean) ∈ zw := zw_of (i := 104) (by decide +kernel) rfl
def ws_X_isPair : List Cond := Cond.code y_X_isPair c_X_isPair 3 (some .boolean) :: zw
abbrev c_X_pairOf : ByteArray := prog_1_method_23_code
abbrev y_X_pairOf : MethodName := ⟨"InjectorTree", "pairOf", "(II)I"⟩
theorem tw_co_X_pairOf : Cond.code y_X_pairOf c_X_pairOf 2 (some .int) ∈ zw := zw_of (i := 107) (by decide +kernel) rfl
def ws_X_pairOf : List Cond := Cond.code y_X_pairOf c_X_pairOf 2 (some .int) :: zw
abbrev c_B_init : ByteArray := prog_2_method_1_code
abbrev y_B_init : MethodName := ⟨"InjectorTree$Binding", "<init>", "(LInjectorTree$Kind;IIIILInjectorTree$Needs;)V"⟩
theorem tw_co_B_init : Cond.code y_B_init c_B_init 7 none ∈ zw := zw_of (i := 113) (by decide +kernel) rfl
def ws_B_init : List Cond := Cond.code y_B_init c_B_init 7 none :: zw
abbrev c_X_bindLink : ByteArray := prog_1_method_6_code
abbrev y_X_bindLink : MethodName := ⟨"InjectorTree", "bindLink", "(III)I"⟩
theorem tw_co_X_bindLink : Cond.code y_X_bindLink c_X_bindLink 5 (some .int) ∈ zw := zw_of (i := 150) (by decide +kernel) rfl
def ws_X_bindLink : List Cond := Cond.code y_X_bindLink c_X_bindLink 5 (some .int) :: zw
abbrev c_X_bindClass : ByteArray := prog_1_method_7_code
abbrev y_X_bindClass : MethodName := ⟨"InjectorTree", "bindClass", "(III)I"⟩
theorem tw_co_X_bindClass : Cond.code y_X_bindClass c_X_bindClass 5 (some .int) ∈ zw := zw_of (i := 156) (by decide +kernel) rfl
def ws_X_bindClass : List Cond := Cond.code y_X_bindClass c_X_bindClass 5 (some .int) :: zw
abbrev c_X_unbind : ByteArray := prog_1_method_8_code
abbrev y_X_unbind : MethodName := ⟨"InjectorTree", "unbind", "(II)I"⟩
theorem tw_co_X_unbind : Cond.code y_X_unbind c_X_unbind 3 (some .int) ∈ zw := zw_of (i := 162) (by decide +kernel) rfl
def ws_X_unbind : List Cond := Cond.code y_X_unbind c_X_unbind 3 (some .int) :: zw
abbrev c_X_open : ByteArray := prog_1_method_9_code
abbrev y_X_open : MethodName := ⟨"InjectorTree", "open", "()I"⟩
theorem tw_co_X_open : Cond.code y_X_open c_X_open 1 (some .int) ∈ zw := zw_of (i := 166) (by decide +kernel) rfl
def ws_X_open : List Cond := Cond.code y_X_open c_X_open 1 (some .int) :: zw
abbrev c_X_close : ByteArray := prog_1_method_10_code
abbrev y_X_close : MethodName := ⟨"InjectorTree", "close", "()I"⟩
theorem tw_co_X_close : Cond.code y_X_close c_X_close 6 (some .int) ∈ zw := zw_of (i := 170) (by decide +kernel) rfl
def ws_X_close : List Cond := Cond.code y_X_close c_X_close 6 (some .int) :: zw
abbrev c_X_countKept : ByteArray := prog_1_method_38_code
abbrev y_X_countKept : MethodName := ⟨"InjectorTree", "countKept", "(I)I"⟩
theorem tw_co_X_countKept : Cond.code y_X_countKept c_X_countKept 7 (some .int) ∈ zw := zw_of (i := 174) (by decide +kernel) rfl
def ws_X_countKept : List Cond := Cond.code y_X_countKept c_X_countKept 7 (some .int) :: zw
abbrev c_X_get : ByteArray := prog_1_method_11_code
abbrev y_X_get : MethodName := ⟨"InjectorTree", "get", "(II)J"⟩
theorem tw_co_X_get : Cond.code y_X_get c_X_get 3 (some .long) ∈ zw := zw_of (i := 178) (by decide +kernel) rfl
def ws_X_get : List Cond := Cond.code y_X_get c_X_get 3 (some .long) :: zw
abbrev c_X_obtainFromOutside : ByteArray := prog_1_method_27_code
abbrev y_X_obtainFromOutside : MethodName := ⟨"InjectorTree", "obtainFromOutside", "(II)J"⟩
theorem tw_co_X_obtainFromOutside : Cond.code y_X_obtainFromOutside c_X_obtainFromOutside 6 (some .long) ∈ zw := zw_of (i := 183) (by decide +kernel) rfl
def ws_X_obtainFromOutside : List Cond := Cond.code y_X_obtainFromOutside c_X_obtainFromOutside 6 (some .long) :: zw
abbrev c_X_obtain : ByteArray := prog_1_method_31_code
abbrev y_X_obtain : MethodName := ⟨"InjectorTree", "obtain", "(III)J"⟩
theorem tw_co_X_obtain : Cond.code y_X_obtain c_X_obtain 7 (some .long) ∈ zw := zw_of (i := 187) (by decide +kernel) rfl
def ws_X_obtain : List Cond := Cond.code y_X_obtain c_X_obtain 7 (some .long) :: zw
abbrev c_X_seenFrom : ByteArray := prog_1_method_26_code
abbrev y_X_seenFrom : MethodName := ⟨"InjectorTree", "seenFrom", "(II)LInjectorTree$Binding;"⟩
theorem tw_co_X_seenFrom : Cond.code y_X_seenFrom c_X_seenFrom 6 (some (.object "InjectorTree$Binding")) ∈ zw := zw_of (i := 191) (by decide +kernel) rfl
def ws_X_seenFrom : List Cond := Cond.code y_X_seenFrom c_X_seenFrom 6 (some (.object "InjectorTree$Binding")) :: zw
abbrev c_X_obtainNew : ByteArray := prog_1_method_32_code
abbrev y_X_obtainNew : MethodName := ⟨"InjectorTree", "obtainNew", "(LInjectorTree$Binding;I)J"⟩
theorem tw_co_X_obtainNew : Cond.code y_X_obtainNew c_X_obtainNew 8 (some .long) ∈ zw := zw_of (i := 198) (by decide +kernel) rfl
def ws_X_obtainNew : List Cond := Cond.code y_X_obtainNew c_X_obtainNew 8 (some .long) :: zw
abbrev c_X_handleOf : ByteArray := prog_1_method_34_code
abbrev y_X_handleOf : MethodName := ⟨"InjectorTree", "handleOf", "(II)J"⟩
theorem tw_co_X_handleOf : Cond.code y_X_handleOf c_X_handleOf 2 (some .long) ∈ zw := zw_of (i := 202) (by decide +kernel) rfl
def ws_X_handleOf : List Cond := Cond.code y_X_handleOf c_X_handleOf 2 (some .long) :: zw
abbrev c_X_isError : ByteArray := prog_1_method_29_code
abbrev y_X_isError : MethodName := ⟨"InjectorTree", "isError", "(J)Z"⟩
theorem tw_co_X_isError : Cond.code y_X_isError c_X_isError 2 (some .boolean) ∈ zw := zw_of (i := 206) (by decide +kernel) rfl
def ws_X_isError : List Cond := Cond.code y_X_isError c_X_isError 2 (some .boolean) :: zw
abbrev c_X_makeInstance : ByteArray := prog_1_method_33_code
abbrev y_X_makeInstance : MethodName := ⟨"InjectorTree", "makeInstance", "(LInjectorTree$Binding;I)I"⟩
theorem tw_co_X_makeInstance : Cond.code y_X_makeInstance c_X_makeInstance 4 (some .int) ∈ zw := zw_of (i := 211) (by decide +kernel) rfl
def ws_X_makeInstance : List Cond := Cond.code y_X_makeInstance c_X_makeInstance 4 (some .int) :: zw
abbrev c_X_unmakeFrom : ByteArray := prog_1_method_30_code
abbrev y_X_unmakeFrom : MethodName := ⟨"InjectorTree", "unmakeFrom", "(I)V"⟩
theorem tw_co_X_unmakeFrom : Cond.code y_X_unmakeFrom c_X_unmakeFrom 6 none ∈ zw := zw_of (i := 218) (by decide +kernel) rfl
def ws_X_unmakeFrom : List Cond := Cond.code y_X_unmakeFrom c_X_unmakeFrom 6 none :: zw
abbrev c_X_ask : ByteArray := prog_1_method_12_code
abbrev y_X_ask : MethodName := ⟨"InjectorTree", "ask", "(II)J"⟩
theorem tw_co_X_ask : Cond.code y_X_ask c_X_ask 4 (some .long) ∈ zw := zw_of (i := 222) (by decide +kernel) rfl
def ws_X_ask : List Cond := Cond.code y_X_ask c_X_ask 4 (some .long) :: zw
abbrev c_X_makerOf : ByteArray := prog_1_method_24_code
abbrev y_X_makerOf : MethodName := ⟨"InjectorTree", "makerOf", "(I)LInjectorTree$Binding;"⟩
theorem tw_co_X_makerOf : Cond.code y_X_makerOf c_X_makerOf 2 (some (.object "InjectorTree$Binding")) ∈ zw := zw_of (i := 226) (by decide +kernel) rfl
def ws_X_makerOf : List Cond := Cond.code y_X_makerOf c_X_makerOf 2 (some (.object "InjectorTree$Binding")) :: zw
abbrev c_X_hasNeed : ByteArray := prog_1_method_25_code
abbrev y_X_hasNeed : MethodName := ⟨"InjectorTree", "hasNeed", "(LInjectorTree$Binding;I)Z"⟩
theorem tw_co_X_hasNeed : Cond.code y_X_hasNeed c_X_hasNeed 2 (some .boolean) ∈ zw := zw_of (i := 229) (by decide +kernel) rfl
def ws_X_hasNeed : List Cond := Cond.code y_X_hasNeed c_X_hasNeed 2 (some .boolean) :: zw
abbrev c_X_held : ByteArray := prog_1_method_13_code
abbrev y_X_held : MethodName := ⟨"InjectorTree", "held", "(II)J"⟩
theorem tw_co_X_held : Cond.code y_X_held c_X_held 4 (some .long) ∈ zw := zw_of (i := 233) (by decide +kernel) rfl
def ws_X_held : List Cond := Cond.code y_X_held c_X_held 4 (some .long) :: zw
abbrev c_X_about : ByteArray := prog_1_method_14_code
abbrev y_X_about : MethodName := ⟨"InjectorTree", "about", "(II)I"⟩
theorem tw_co_X_about : Cond.code y_X_about c_X_about 4 (some .int) ∈ zw := zw_of (i := 237) (by decide +kernel) rfl
def ws_X_about : List Cond := Cond.code y_X_about c_X_about 4 (some .int) :: zw
abbrev c_X_broken : ByteArray := prog_1_method_15_code
abbrev y_X_broken : MethodName := ⟨"InjectorTree", "broken", "(I)I"⟩
theorem tw_co_X_broken : Cond.code y_X_broken c_X_broken 3 (some .int) ∈ zw := zw_of (i := 241) (by decide +kernel) rfl
def ws_X_broken : List Cond := Cond.code y_X_broken c_X_broken 3 (some .int) :: zw
abbrev c_X_wouldFail : ByteArray := prog_1_method_28_code
abbrev y_X_wouldFail : MethodName := ⟨"InjectorTree", "wouldFail", "(II)Z"⟩
theorem tw_co_X_wouldFail : Cond.code y_X_wouldFail c_X_wouldFail 6 (some .boolean) ∈ zw := zw_of (i := 245) (by decide +kernel) rfl
def ws_X_wouldFail : List Cond := Cond.code y_X_wouldFail c_X_wouldFail 6 (some .boolean) :: zw
abbrev c_X_reach : ByteArray := prog_1_method_16_code
abbrev y_X_reach : MethodName := ⟨"InjectorTree", "reach", "(II)I"⟩
theorem tw_co_X_reach : Cond.code y_X_reach c_X_reach 11 (some .int) ∈ zw := zw_of (i := 249) (by decide +kernel) rfl
def ws_X_reach : List Cond := Cond.code y_X_reach c_X_reach 11 (some .int) :: zw
abbrev c_J_numberOfTrailingZeros : ByteArray := prog_9_method_49_code
abbrev y_J_numberOfTrailingZeros : MethodName := ⟨"java/lang/Long", "numberOfTrailingZeros", "(J)I"⟩
theorem tw_co_J_numberOfTrailingZeros : Cond.code y_J_numberOfTrailingZeros c_J_numberOfTrailingZeros 3 (some .int) ∈ zw := zw_of (i := 252) (by decide +kernel) rfl
def ws_J_numberOfTrailingZeros : List Cond := Cond.code y_J_numberOfTrailingZeros c_J_numberOfTrailingZeros 3 (some .int) :: zw
abbrev c_I_numberOfTrailingZeros : ByteArray := prog_8_method_48_code
abbrev y_I_numberOfTrailingZeros : MethodName := ⟨"java/lang/Integer", "numberOfTrailingZeros", "(I)I"⟩
theorem tw_co_I_numberOfTrailingZeros : Cond.code y_I_numberOfTrailingZeros c_I_numberOfTrailingZeros 2 (some .int) ∈ zw := zw_of (i := 255) (by decide +kernel) rfl
def ws_I_numberOfTrailingZeros : List Cond := Cond.code y_I_numberOfTrailingZeros c_I_numberOfTrailingZeros 2 (some .int) :: zw
abbrev c_X_nextPairs : ByteArray := prog_1_method_35_code
abbrev y_X_nextPairs : MethodName := ⟨"InjectorTree", "nextPairs", "(II)J"⟩
theorem tw_co_X_nextPairs : Cond.code y_X_nextPairs c_X_nextPairs 7 (some .long) ∈ zw := zw_of (i := 260) (by decide +kernel) rfl
def ws_X_nextPairs : List Cond := Cond.code y_X_nextPairs c_X_nextPairs 7 (some .long) :: zw
abbrev c_X_keysOf : ByteArray := prog_1_method_36_code
abbrev y_X_keysOf : MethodName := ⟨"InjectorTree", "keysOf", "(J)I"⟩
theorem tw_co_X_keysOf : Cond.code y_X_keysOf c_X_keysOf 5 (some .int) ∈ zw := zw_of (i := 263) (by decide +kernel) rfl
def ws_X_keysOf : List Cond := Cond.code y_X_keysOf c_X_keysOf 5 (some .int) :: zw
abbrev c_X_home : ByteArray := prog_1_method_17_code
abbrev y_X_home : MethodName := ⟨"InjectorTree", "home", "(II)I"⟩
theorem tw_co_X_home : Cond.code y_X_home c_X_home 4 (some .int) ∈ zw := zw_of (i := 267) (by decide +kernel) rfl
def ws_X_home : List Cond := Cond.code y_X_home c_X_home 4 (some .int) :: zw
abbrev c_X_count : ByteArray := prog_1_method_18_code
abbrev y_X_count : MethodName := ⟨"InjectorTree", "count", "(I)I"⟩
theorem tw_co_X_count : Cond.code y_X_count c_X_count 2 (some .int) ∈ zw := zw_of (i := 271) (by decide +kernel) rfl
def ws_X_count : List Cond := Cond.code y_X_count c_X_count 2 (some .int) :: zw
abbrev c_X_countBindings : ByteArray := prog_1_method_37_code
abbrev y_X_countBindings : MethodName := ⟨"InjectorTree", "countBindings", "()I"⟩
theorem tw_co_X_countBindings : Cond.code y_X_countBindings c_X_countBindings 6 (some .int) ∈ zw := zw_of (i := 275) (by decide +kernel) rfl
def ws_X_countBindings : List Cond := Cond.code y_X_countBindings c_X_countBindings 6 (some .int) :: zw
abbrev c_M_init : ByteArray := prog_6_method_1_code
abbrev y_M_init : MethodName := ⟨"InjectorTreeModel", "<init>", "()V"⟩
theorem tw_co_M_init : Cond.code y_M_init c_M_init 1 none ∈ zw := zw_of (i := 280) (by decide +kernel) rfl
def ws_M_init : List Cond := Cond.code y_M_init c_M_init 1 none :: zw
abbrev c_M_child : ByteArray := prog_6_method_3_code
abbrev y_M_child : MethodName := ⟨"InjectorTreeModel", "child", "(I)I"⟩
theorem tw_co_M_child : Cond.code y_M_child c_M_child 2 (some .int) ∈ zw := zw_of (i := 370) (by decide +kernel) rfl
def ws_M_child : List Cond := Cond.code y_M_child c_M_child 2 (some .int) :: zw
abbrev c_M_need : ByteArray := prog_6_method_4_code
abbrev y_M_need : MethodName := ⟨"InjectorTreeModel", "need", "(IZ)I"⟩
theorem tw_co_M_need : Cond.code y_M_need c_M_need 3 (some .int) ∈ zw := zw_of (i := 374) (by decide +kernel) rfl
def ws_M_need : List Cond := Cond.code y_M_need c_M_need 3 (some .int) :: zw
abbrev c_M_drop : ByteArray := prog_6_method_5_code
abbrev y_M_drop : MethodName := ⟨"InjectorTreeModel", "drop", "()I"⟩
theorem tw_co_M_drop : Cond.code y_M_drop c_M_drop 2 (some .int) ∈ zw := zw_of (i := 378) (by decide +kernel) rfl
def ws_M_drop : List Cond := Cond.code y_M_drop c_M_drop 2 (some .int) :: zw
abbrev c_M_bindConstant : ByteArray := prog_6_method_7_code
abbrev y_M_bindConstant : MethodName := ⟨"InjectorTreeModel", "bindConstant", "(III)I"⟩
theorem tw_co_M_bindConstant : Cond.code y_M_bindConstant c_M_bindConstant 4 (some .int) ∈ zw := zw_of (i := 382) (by decide +kernel) rfl
def ws_M_bindConstant : List Cond := Cond.code y_M_bindConstant c_M_bindConstant 4 (some .int) :: zw
abbrev c_M_bind : ByteArray := prog_6_method_6_code
abbrev y_M_bind : MethodName := ⟨"InjectorTreeModel", "bind", "(IIII)I"⟩
theorem tw_co_M_bind : Cond.code y_M_bind c_M_bind 5 (some .int) ∈ zw := zw_of (i := 386) (by decide +kernel) rfl
def ws_M_bind : List Cond := Cond.code y_M_bind c_M_bind 5 (some .int) :: zw
abbrev c_M_noPair : ByteArray := prog_6_method_2_code
abbrev y_M_noPair : MethodName := ⟨"InjectorTreeModel", "noPair", "(II)Z"⟩
theorem tw_co_M_noPair : Cond.code y_M_noPair c_M_noPair 3 (some .boolean) ∈ zw := zw_of (i := 390) (by decide +kernel) rfl
def ws_M_noPair : List Cond := Cond.code y_M_noPair c_M_noPair 3 (some .boolean) :: zw
abbrev c_M_bindLink : ByteArray := prog_6_method_8_code
abbrev y_M_bindLink : MethodName := ⟨"InjectorTreeModel", "bindLink", "(III)I"⟩
theorem tw_co_M_bindLink : Cond.code y_M_bindLink c_M_bindLink 4 (some .int) ∈ zw := zw_of (i := 394) (by decide +kernel) rfl
def ws_M_bindLink : List Cond := Cond.code y_M_bindLink c_M_bindLink 4 (some .int) :: zw
abbrev c_M_bindClass : ByteArray := prog_6_method_9_code
abbrev y_M_bindClass : MethodName := ⟨"InjectorTreeModel", "bindClass", "(III)I"⟩
theorem tw_co_M_bindClass : Cond.code y_M_bindClass c_M_bindClass 6 (some .int) ∈ zw := zw_of (i := 398) (by decide +kernel) rfl
def ws_M_bindClass : List Cond := Cond.code y_M_bindClass c_M_bindClass 6 (some .int) :: zw
abbrev c_M_unbind : ByteArray := prog_6_method_10_code
abbrev y_M_unbind : MethodName := ⟨"InjectorTreeModel", "unbind", "(II)I"⟩
theorem tw_co_M_unbind : Cond.code y_M_unbind c_M_unbind 4 (some .int) ∈ zw := zw_of (i := 403) (by decide +kernel) rfl
def ws_M_unbind : List Cond := Cond.code y_M_unbind c_M_unbind 4 (some .int) :: zw
abbrev c_M_open : ByteArray := prog_6_method_11_code
abbrev y_M_open : MethodName := ⟨"InjectorTreeModel", "open", "()I"⟩
theorem tw_co_M_open : Cond.code y_M_open c_M_open 1 (some .int) ∈ zw := zw_of (i := 407) (by decide +kernel) rfl
def ws_M_open : List Cond := Cond.code y_M_open c_M_open 1 (some .int) :: zw
abbrev c_M_close : ByteArray := prog_6_method_13_code
abbrev y_M_close : MethodName := ⟨"InjectorTreeModel", "close", "()I"⟩
theorem tw_co_M_close : Cond.code y_M_close c_M_close 3 (some .int) ∈ zw := zw_of (i := 411) (by decide +kernel) rfl
def ws_M_close : List Cond := Cond.code y_M_close c_M_close 3 (some .int) :: zw
abbrev c_M_filled : ByteArray := prog_6_method_12_code
abbrev y_M_filled : MethodName := ⟨"InjectorTreeModel", "filled", "([I)I"⟩
theorem tw_co_M_filled : Cond.code y_M_filled c_M_filled 3 (some .int) ∈ zw := zw_of (i := 414) (by decide +kernel) rfl
def ws_M_filled : List Cond := Cond.code y_M_filled c_M_filled 3 (some .int) :: zw
abbrev c_M_get : ByteArray := prog_6_method_23_code
abbrev y_M_get : MethodName := ⟨"InjectorTreeModel", "get", "(II)J"⟩
theorem tw_co_M_get : Cond.code y_M_get c_M_get 6 (some .long) ∈ zw := zw_of (i := 418) (by decide +kernel) rfl
def ws_M_get : List Cond := Cond.code y_M_get c_M_get 6 (some .long) :: zw
abbrev c_M_keepCopies : ByteArray := prog_6_method_21_code
abbrev y_M_keepCopies : MethodName := ⟨"InjectorTreeModel", "keepCopies", "()V"⟩
theorem tw_co_M_keepCopies : Cond.code y_M_keepCopies c_M_keepCopies 2 none ∈ zw := zw_of (i := 423) (by decide +kernel) rfl
def ws_M_keepCopies : List Cond := Cond.code y_M_keepCopies c_M_keepCopies 2 none :: zw
abbrev c_M_gets : ByteArray := prog_6_method_20_code
abbrev y_M_gets : MethodName := ⟨"InjectorTreeModel", "gets", "(II)J"⟩
theorem tw_co_M_gets : Cond.code y_M_gets c_M_gets 7 (some .long) ∈ zw := zw_of (i := 427) (by decide +kernel) rfl
def ws_M_gets : List Cond := Cond.code y_M_gets c_M_gets 7 (some .long) :: zw
abbrev c_M_begin : ByteArray := prog_6_method_16_code
abbrev y_M_begin : MethodName := ⟨"InjectorTreeModel", "begin", "(II)J"⟩
theorem tw_co_M_begin : Cond.code y_M_begin c_M_begin 4 (some .long) ∈ zw := zw_of (i := 431) (by decide +kernel) rfl
def ws_M_begin : List Cond := Cond.code y_M_begin c_M_begin 4 (some .long) :: zw
abbrev c_M_seen : ByteArray := prog_6_method_14_code
abbrev y_M_seen : MethodName := ⟨"InjectorTreeModel", "seen", "(II)I"⟩
theorem tw_co_M_seen : Cond.code y_M_seen c_M_seen 4 (some .int) ∈ zw := zw_of (i := 435) (by decide +kernel) rfl
def ws_M_seen : List Cond := Cond.code y_M_seen c_M_seen 4 (some .int) :: zw
abbrev c_M_working : ByteArray := prog_6_method_15_code
abbrev y_M_working : MethodName := ⟨"InjectorTreeModel", "working", "(I)Z"⟩
theorem tw_co_M_working : Cond.code y_M_working c_M_working 3 (some .boolean) ∈ zw := zw_of (i := 441) (by decide +kernel) rfl
def ws_M_working : List Cond := Cond.code y_M_working c_M_working 3 (some .boolean) :: zw
abbrev c_M_work : ByteArray := prog_6_method_18_code
abbrev y_M_work : MethodName := ⟨"InjectorTreeModel", "work", "()J"⟩
theorem tw_co_M_work : Cond.code y_M_work c_M_work 6 (some .long) ∈ zw := zw_of (i := 449) (by decide +kernel) rfl
def ws_M_work : List Cond := Cond.code y_M_work c_M_work 6 (some .long) :: zw
abbrev c_M_make : ByteArray := prog_6_method_17_code
abbrev y_M_make : MethodName := ⟨"InjectorTreeModel", "make", "(II)J"⟩
theorem tw_co_M_make : Cond.code y_M_make c_M_make 5 (some .long) ∈ zw := zw_of (i := 454) (by decide +kernel) rfl
def ws_M_make : List Cond := Cond.code y_M_make c_M_make 5 (some .long) :: zw
abbrev c_M_took : ByteArray := prog_6_method_19_code
abbrev y_M_took : MethodName := ⟨"InjectorTreeModel", "took", "(JI)Z"⟩
theorem tw_co_M_took : Cond.code y_M_took c_M_took 4 (some .boolean) ∈ zw := zw_of (i := 459) (by decide +kernel) rfl
def ws_M_took : List Cond := Cond.code y_M_took c_M_took 4 (some .boolean) :: zw
abbrev c_M_takeBack : ByteArray := prog_6_method_22_code
abbrev y_M_takeBack : MethodName := ⟨"InjectorTreeModel", "takeBack", "(I)V"⟩
theorem tw_co_M_takeBack : Cond.code y_M_takeBack c_M_takeBack 3 none ∈ zw := zw_of (i := 463) (by decide +kernel) rfl
def ws_M_takeBack : List Cond := Cond.code y_M_takeBack c_M_takeBack 3 none :: zw
abbrev c_M_ask : ByteArray := prog_6_method_25_code
abbrev y_M_ask : MethodName := ⟨"InjectorTreeModel", "ask", "(II)J"⟩
theorem tw_co_M_ask : Cond.code y_M_ask c_M_ask 4 (some .long) ∈ zw := zw_of (i := 467) (by decide +kernel) rfl
def ws_M_ask : List Cond := Cond.code y_M_ask c_M_ask 4 (some .long) :: zw
abbrev c_M_noNeed : ByteArray := prog_6_method_24_code
abbrev y_M_noNeed : MethodName := ⟨"InjectorTreeModel", "noNeed", "(II)Z"⟩
theorem tw_co_M_noNeed : Cond.code y_M_noNeed c_M_noNeed 3 (some .boolean) ∈ zw := zw_of (i := 471) (by decide +kernel) rfl
def ws_M_noNeed : List Cond := Cond.code y_M_noNeed c_M_noNeed 3 (some .boolean) :: zw
abbrev c_M_held : ByteArray := prog_6_method_26_code
abbrev y_M_held : MethodName := ⟨"InjectorTreeModel", "held", "(II)J"⟩
theorem tw_co_M_held : Cond.code y_M_held c_M_held 3 (some .long) ∈ zw := zw_of (i := 476) (by decide +kernel) rfl
def ws_M_held : List Cond := Cond.code y_M_held c_M_held 3 (some .long) :: zw
abbrev c_M_about : ByteArray := prog_6_method_27_code
abbrev y_M_about : MethodName := ⟨"InjectorTreeModel", "about", "(II)I"⟩
theorem tw_co_M_about : Cond.code y_M_about c_M_about 3 (some .int) ∈ zw := zw_of (i := 480) (by decide +kernel) rfl
def ws_M_about : List Cond := Cond.code y_M_about c_M_about 3 (some .int) :: zw
abbrev c_M_broken : ByteArray := prog_6_method_28_code
abbrev y_M_broken : MethodName := ⟨"InjectorTreeModel", "broken", "(I)I"⟩
theorem tw_co_M_broken : Cond.code y_M_broken c_M_broken 6 (some .int) ∈ zw := zw_of (i := 484) (by decide +kernel) rfl
def ws_M_broken : List Cond := Cond.code y_M_broken c_M_broken 6 (some .int) :: zw
abbrev c_M_reach : ByteArray := prog_6_method_29_code
abbrev y_M_reach : MethodName := ⟨"InjectorTreeModel", "reach", "(II)I"⟩
theorem tw_co_M_reach : Cond.code y_M_reach c_M_reach 9 (some .int) ∈ zw := zw_of (i := 488) (by decide +kernel) rfl
def ws_M_reach : List Cond := Cond.code y_M_reach c_M_reach 9 (some .int) :: zw
abbrev c_M_home : ByteArray := prog_6_method_30_code
abbrev y_M_home : MethodName := ⟨"InjectorTreeModel", "home", "(II)I"⟩
theorem tw_co_M_home : Cond.code y_M_home c_M_home 4 (some .int) ∈ zw := zw_of (i := 492) (by decide +kernel) rfl
def ws_M_home : List Cond := Cond.code y_M_home c_M_home 4 (some .int) :: zw
abbrev c_M_count : ByteArray := prog_6_method_31_code
abbrev y_M_count : MethodName := ⟨"InjectorTreeModel", "count", "(I)I"⟩
theorem tw_co_M_count : Cond.code y_M_count c_M_count 2 (some .int) ∈ zw := zw_of (i := 496) (by decide +kernel) rfl
def ws_M_count : List Cond := Cond.code y_M_count c_M_count 2 (some .int) :: zw
theorem tw_in_L : Cond.initialized "InjectorTreeLaw" ∈ zw := zw_of (i := 0) (by decide +kernel) rfl
theorem tw_in_X : Cond.initialized "InjectorTree" ∈ zw := zw_of (i := 1) (by decide +kernel) rfl
theorem tw_in_N : Cond.initialized "InjectorTree$Needs" ∈ zw := zw_of (i := 2) (by decide +kernel) rfl
theorem tw_in_M : Cond.initialized "InjectorTreeModel" ∈ zw := zw_of (i := 3) (by decide +kernel) rfl
theorem tw_in_B : Cond.initialized "InjectorTree$Binding" ∈ zw := zw_of (i := 4) (by decide +kernel) rfl
theorem tw_in_Kd : Cond.initialized "InjectorTree$Kind" ∈ zw := zw_of (i := 6) (by decide +kernel) rfl
theorem tw_in_S : Cond.initialized "java/lang/System" ∈ zw := zw_of (i := 7) (by decide +kernel) rfl
theorem tw_in_J : Cond.initialized "java/lang/Long" ∈ zw := zw_of (i := 8) (by decide +kernel) rfl
theorem tw_in_I : Cond.initialized "java/lang/Integer" ∈ zw := zw_of (i := 9) (by decide +kernel) rfl
theorem tw_cl_L_7 : Cond.classLink "InjectorTreeLaw" 7 "InjectorTree" ∈ zw := zw_of (i := 10) (by decide +kernel) rfl
theorem tw_is_X : Cond.instantiable "InjectorTree" 9 ∈ zw := zw_of (i := 11) (by decide +kernel) rfl
theorem tw_ml_L_9 : Cond.methodLink "InjectorTreeLaw" 9 y_X_init ∈ zw := zw_of (i := 12) (by decide +kernel) rfl
theorem tw_im_X_init : Cond.instanceMethod y_X_init ∈ zw := zw_of (i := 13) (by decide +kernel) rfl
theorem tw_ml_X_3 : Cond.methodLink "InjectorTree" 3 objectInit ∈ zw := zw_of (i := 15) (by decide +kernel) rfl
theorem tw_im_oinit : Cond.instanceMethod objectInit ∈ zw := zw_of (i := 16) (by decide +kernel) rfl
theorem tw_co_oinit : Cond.code objectInit ⟨#[0xb1]⟩ 1 none ∈ zw := zw_of (i := 17) (by decide +kernel) rfl
theorem tw_cl_X_17 : Cond.classLink "InjectorTree" 17 "InjectorTree$Binding" ∈ zw := zw_of (i := 18) (by decide +kernel) rfl
theorem tw_cl_X_33 : Cond.classLink "InjectorTree" 33 "InjectorTree$Needs" ∈ zw := zw_of (i := 20) (by decide +kernel) rfl
theorem tw_is_N : Cond.instantiable "InjectorTree$Needs" 3 ∈ zw := zw_of (i := 21) (by decide +kernel) rfl
theorem tw_im_N_init : Cond.instanceMethod y_N_init ∈ zw := zw_of (i := 23) (by decide +kernel) rfl
theorem tw_ml_N_3 : Cond.methodLink "InjectorTree$Needs" 3 objectInit ∈ zw := zw_of (i := 25) (by decide +kernel) rfl
theorem tw_fl_N_9 : Cond.fieldLink "InjectorTree$Needs" 9 "InjectorTree$Needs" "keys" "[I" ∈ zw := zw_of (i := 26) (by decide +kernel) rfl
theorem tw_fl_N_15 : Cond.fieldLink "InjectorTree$Needs" 15 "InjectorTree$Needs" "lazy" "[Z" ∈ zw := zw_of (i := 28) (by decide +kernel) rfl
theorem tw_fl_N_19 : Cond.fieldLink "InjectorTree$Needs" 19 "InjectorTree$Needs" "size" "I" ∈ zw := zw_of (i := 30) (by decide +kernel) rfl
theorem tw_ac_int : Cond.arrayClass .int ∈ zw := zw_of (i := 39) (by decide +kernel) rfl
theorem tw_ac_long : Cond.arrayClass .long ∈ zw := zw_of (i := 40) (by decide +kernel) rfl
theorem tw_ac_boolean : Cond.arrayClass .boolean ∈ zw := zw_of (i := 41) (by decide +kernel) rfl
theorem tw_fl_X_9 : Cond.fieldLink "InjectorTree" 9 "InjectorTree" "parents" "[I" ∈ zw := zw_of (i := 42) (by decide +kernel) rfl
theorem tw_fl_X_19 : Cond.fieldLink "InjectorTree" 19 "InjectorTree" "bindings" "[LInjectorTree$Binding;" ∈ zw := zw_of (i := 43) (by decide +kernel) rfl
theorem tw_fl_X_23 : Cond.fieldLink "InjectorTree" 23 "InjectorTree" "makers" "[LInjectorTree$Binding;" ∈ zw := zw_of (i := 44) (by decide +kernel) rfl
theorem tw_fl_X_26 : Cond.fieldLink "InjectorTree" 26 "InjectorTree" "values" "[J" ∈ zw := zw_of (i := 45) (by decide +kernel) rfl
theorem tw_fl_X_30 : Cond.fieldLink "InjectorTree" 30 "InjectorTree" "gathered" "[J" ∈ zw := zw_of (i := 46) (by decide +kernel) rfl
theorem tw_fl_X_36 : Cond.fieldLink "InjectorTree" 36 "InjectorTree" "buffer" "LInjectorTree$Needs;" ∈ zw := zw_of (i := 47) (by decide +kernel) rfl
theorem tw_fl_X_13 : Cond.fieldLink "InjectorTree" 13 "InjectorTree" "injectors" "I" ∈ zw := zw_of (i := 48) (by decide +kernel) rfl
theorem tw_fl_X_143 : Cond.fieldLink "InjectorTree" 143 "InjectorTree" "made" "I" ∈ zw := zw_of (i := 49) (by decide +kernel) rfl
theorem tw_fl_X_80 : Cond.fieldLink "InjectorTree" 80 "InjectorTree" "requestOpen" "Z" ∈ zw := zw_of (i := 50) (by decide +kernel) rfl
theorem tw_ml_L_13 : Cond.methodLink "InjectorTreeLaw" 13 y_X_child ∈ zw := zw_of (i := 70) (by decide +kernel) rfl
theorem tw_im_X_child : Cond.instanceMethod y_X_child ∈ zw := zw_of (i := 71) (by decide +kernel) rfl
theorem tw_se_X_child : Cond.selects "InjectorTree" y_X_child y_X_child ∈ zw := zw_of (i := 72) (by decide +kernel) rfl
theorem tw_ml_X_40 : Cond.methodLink "InjectorTree" 40 y_X_isInjector ∈ zw := zw_of (i := 74) (by decide +kernel) rfl
theorem tw_im_X_isInjector : Cond.instanceMethod y_X_isInjector ∈ zw := zw_of (i := 76) (by decide +kernel) rfl
theorem tw_ml_L_18 : Cond.methodLink "InjectorTreeLaw" 18 y_X_need ∈ zw := zw_of (i := 78) (by decide +kernel) rfl
theorem tw_im_X_need : Cond.instanceMethod y_X_need ∈ zw := zw_of (i := 79) (by decide +kernel) rfl
theorem tw_se_X_need : Cond.selects "InjectorTree" y_X_need y_X_need ∈ zw := zw_of (i := 80) (by decide +kernel) rfl
theorem tw_ml_X_44 : Cond.methodLink "InjectorTree" 44 y_X_isKey ∈ zw := zw_of (i := 82) (by decide +kernel) rfl
theorem tw_st_X_isKey : Cond.static y_X_isKey ∈ zw := zw_of (i := 83) (by decide +kernel) rfl
theorem tw_im_N_append : Cond.instanceMethod y_N_append ∈ zw := zw_of (i := 87) (by decide +kernel) rfl
theorem tw_ml_L_23 : Cond.methodLink "InjectorTreeLaw" 23 y_X_drop ∈ zw := zw_of (i := 89) (by decide +kernel) rfl
theorem tw_im_X_drop : Cond.instanceMethod y_X_drop ∈ zw := zw_of (i := 90) (by decide +kernel) rfl
theorem tw_se_X_drop : Cond.selects "InjectorTree" y_X_drop y_X_drop ∈ zw := zw_of (i := 91) (by decide +kernel) rfl
theorem tw_ml_L_28 : Cond.methodLink "InjectorTreeLaw" 28 y_X_bindConstant ∈ zw := zw_of (i := 93) (by decide +kernel) rfl
theorem tw_im_X_bindConstant : Cond.instanceMethod y_X_bindConstant ∈ zw := zw_of (i := 94) (by decide +kernel) rfl
theorem tw_se_X_bindConstant : Cond.selects "InjectorTree" y_X_bindConstant y_X_bindConstant ∈ zw := zw_of (i := 95) (by decide +kernel) rfl
theorem tw_ml_X_54 : Cond.methodLink "InjectorTree" 54 y_X_isUnbound ∈ zw := zw_of (i := 97) (by decide +kernel) rfl
theorem tw_im_X_isUnbound : Cond.instanceMethod y_X_isUnbound ∈ zw := zw_of (i := 99) (by decide +kernel) rfl
theorem tw_ml_X_77 : Cond.methodLink "InjectorTree" 77 y_X_isPair ∈ zw := zw_of (i := 101) (by decide +kernel) rfl
theorem tw_im_X_isPair : Cond.instanceMethod y_X_isPair ∈ zw := zw_of (i := 103) (by decide +kernel) rfl
theorem tw_ml_X_58 : Cond.methodLink "InjectorTree" 58 y_X_pairOf ∈ zw := zw_of (i := 105) (by decide +kernel) rfl
theorem tw_st_X_pairOf : Cond.static y_X_pairOf ∈ zw := zw_of (i := 106) (by decide +kernel) rfl
theorem tw_is_B : Cond.instantiable "InjectorTree$Binding" 8 ∈ zw := zw_of (i := 108) (by decide +kernel) rfl
theorem tw_fl_X_62 : Cond.fieldLink "InjectorTree" 62 "InjectorTree$Kind" "CONSTANT" "LInjectorTree$Kind;" ∈ zw := zw_of (i := 109) (by decide +kernel) rfl
theorem tw_im_B_init : Cond.instanceMethod y_B_init ∈ zw := zw_of (i := 112) (by decide +kernel) rfl
theorem tw_ml_B_3 : Cond.methodLink "InjectorTree$Binding" 3 objectInit ∈ zw := zw_of (i := 114) (by decide +kernel) rfl
theorem tw_fl_B_9 : Cond.fieldLink "InjectorTree$Binding" 9 "InjectorTree$Binding" "kind" "LInjectorTree$Kind;" ∈ zw := zw_of (i := 115) (by decide +kernel) rfl
theorem tw_fl_B_15 : Cond.fieldLink "InjectorTree$Binding" 15 "InjectorTree$Binding" "injector" "I" ∈ zw := zw_of (i := 117) (by decide +kernel) rfl
theorem tw_fl_B_19 : Cond.fieldLink "InjectorTree$Binding" 19 "InjectorTree$Binding" "key" "I" ∈ zw := zw_of (i := 119) (by decide +kernel) rfl
theorem tw_fl_B_22 : Cond.fieldLink "InjectorTree$Binding" 22 "InjectorTree$Binding" "constant" "I" ∈ zw := zw_of (i := 121) (by decide +kernel) rfl
theorem tw_fl_B_25 : Cond.fieldLink "InjectorTree$Binding" 25 "InjectorTree$Binding" "scope" "I" ∈ zw := zw_of (i := 123) (by decide +kernel) rfl
theorem tw_fl_B_28 : Cond.fieldLink "InjectorTree$Binding" 28 "InjectorTree$Binding" "needs" "LInjectorTree$Needs;" ∈ zw := zw_of (i := 125) (by decide +kernel) rfl
theorem tw_fl_B_32 : Cond.fieldLink "InjectorTree$Binding" 32 "InjectorTree$Binding" "kept" "I" ∈ zw := zw_of (i := 127) (by decide +kernel) rfl
theorem tw_ml_L_33 : Cond.methodLink "InjectorTreeLaw" 33 y_X_bindLink ∈ zw := zw_of (i := 147) (by decide +kernel) rfl
theorem tw_im_X_bindLink : Cond.instanceMethod y_X_bindLink ∈ zw := zw_of (i := 148) (by decide +kernel) rfl
theorem tw_se_X_bindLink : Cond.selects "InjectorTree" y_X_bindLink y_X_bindLink ∈ zw := zw_of (i := 149) (by decide +kernel) rfl
theorem tw_fl_X_71 : Cond.fieldLink "InjectorTree" 71 "InjectorTree$Kind" "LINK" "LInjectorTree$Kind;" ∈ zw := zw_of (i := 151) (by decide +kernel) rfl
theorem tw_ml_L_37 : Cond.methodLink "InjectorTreeLaw" 37 y_X_bindClass ∈ zw := zw_of (i := 153) (by decide +kernel) rfl
theorem tw_im_X_bindClass : Cond.instanceMethod y_X_bindClass ∈ zw := zw_of (i := 154) (by decide +kernel) rfl
theorem tw_se_X_bindClass : Cond.selects "InjectorTree" y_X_bindClass y_X_bindClass ∈ zw := zw_of (i := 155) (by decide +kernel) rfl
theorem tw_fl_X_74 : Cond.fieldLink "InjectorTree" 74 "InjectorTree$Kind" "CLASS" "LInjectorTree$Kind;" ∈ zw := zw_of (i := 157) (by decide +kernel) rfl
theorem tw_ml_L_41 : Cond.methodLink "InjectorTreeLaw" 41 y_X_unbind ∈ zw := zw_of (i := 159) (by decide +kernel) rfl
theorem tw_im_X_unbind : Cond.instanceMethod y_X_unbind ∈ zw := zw_of (i := 160) (by decide +kernel) rfl
theorem tw_se_X_unbind : Cond.selects "InjectorTree" y_X_unbind y_X_unbind ∈ zw := zw_of (i := 161) (by decide +kernel) rfl
theorem tw_ml_L_46 : Cond.methodLink "InjectorTreeLaw" 46 y_X_open ∈ zw := zw_of (i := 163) (by decide +kernel) rfl
theorem tw_im_X_open : Cond.instanceMethod y_X_open ∈ zw := zw_of (i := 164) (by decide +kernel) rfl
theorem tw_se_X_open : Cond.selects "InjectorTree" y_X_open y_X_open ∈ zw := zw_of (i := 165) (by decide +kernel) rfl
theorem tw_ml_L_50 : Cond.methodLink "InjectorTreeLaw" 50 y_X_close ∈ zw := zw_of (i := 167) (by decide +kernel) rfl
theorem tw_im_X_close : Cond.instanceMethod y_X_close ∈ zw := zw_of (i := 168) (by decide +kernel) rfl
theorem tw_se_X_close : Cond.selects "InjectorTree" y_X_close y_X_close ∈ zw := zw_of (i := 169) (by decide +kernel) rfl
theorem tw_ml_X_84 : Cond.methodLink "InjectorTree" 84 y_X_countKept ∈ zw := zw_of (i := 171) (by decide +kernel) rfl
theorem tw_im_X_countKept : Cond.instanceMethod y_X_countKept ∈ zw := zw_of (i := 173) (by decide +kernel) rfl
theorem tw_ml_L_54 : Cond.methodLink "InjectorTreeLaw" 54 y_X_get ∈ zw := zw_of (i := 175) (by decide +kernel) rfl
theorem tw_im_X_get : Cond.instanceMethod y_X_get ∈ zw := zw_of (i := 176) (by decide +kernel) rfl
theorem tw_se_X_get : Cond.selects "InjectorTree" y_X_get y_X_get ∈ zw := zw_of (i := 177) (by decide +kernel) rfl
theorem tw_kl_X_94 : Cond.constantLong "InjectorTree" 94 (Int64.ofInt (-1)) ∈ zw := zw_of (i := 179) (by decide +kernel) rfl
theorem tw_ml_X_96 : Cond.methodLink "InjectorTree" 96 y_X_obtainFromOutside ∈ zw := zw_of (i := 180) (by decide +kernel) rfl
theorem tw_im_X_obtainFromOutside : Cond.instanceMethod y_X_obtainFromOutside ∈ zw := zw_of (i := 182) (by decide +kernel) rfl
theorem tw_ml_X_150 : Cond.methodLink "InjectorTree" 150 y_X_obtain ∈ zw := zw_of (i := 184) (by decide +kernel) rfl
theorem tw_im_X_obtain : Cond.instanceMethod y_X_obtain ∈ zw := zw_of (i := 186) (by decide +kernel) rfl
theorem tw_ml_X_124 : Cond.methodLink "InjectorTree" 124 y_X_seenFrom ∈ zw := zw_of (i := 188) (by decide +kernel) rfl
theorem tw_im_X_seenFrom : Cond.instanceMethod y_X_seenFrom ∈ zw := zw_of (i := 190) (by decide +kernel) rfl
theorem tw_kl_X_162 : Cond.constantLong "InjectorTree" 162 (Int64.ofInt (-2)) ∈ zw := zw_of (i := 192) (by decide +kernel) rfl
theorem tw_kl_X_167 : Cond.constantLong "InjectorTree" 167 (Int64.ofInt 10000000000) ∈ zw := zw_of (i := 193) (by decide +kernel) rfl
theorem tw_kl_X_175 : Cond.constantLong "InjectorTree" 175 (Int64.ofInt (-3)) ∈ zw := zw_of (i := 194) (by decide +kernel) rfl
theorem tw_ml_X_177 : Cond.methodLink "InjectorTree" 177 y_X_obtainNew ∈ zw := zw_of (i := 195) (by decide +kernel) rfl
theorem tw_im_X_obtainNew : Cond.instanceMethod y_X_obtainNew ∈ zw := zw_of (i := 197) (by decide +kernel) rfl
theorem tw_kl_X_181 : Cond.constantLong "InjectorTree" 181 (Int64.ofInt (-4)) ∈ zw := zw_of (i := 199) (by decide +kernel) rfl
theorem tw_ml_X_183 : Cond.methodLink "InjectorTree" 183 y_X_handleOf ∈ zw := zw_of (i := 200) (by decide +kernel) rfl
theorem tw_st_X_handleOf : Cond.static y_X_handleOf ∈ zw := zw_of (i := 201) (by decide +kernel) rfl
theorem tw_kl_X_198 : Cond.constantLong "InjectorTree" 198 (Int64.ofInt 20000000000) ∈ zw := zw_of (i := 203) (by decide +kernel) rfl
theorem tw_ml_X_154 : Cond.methodLink "InjectorTree" 154 y_X_isError ∈ zw := zw_of (i := 204) (by decide +kernel) rfl
theorem tw_st_X_isError : Cond.static y_X_isError ∈ zw := zw_of (i := 205) (by decide +kernel) rfl
theorem tw_kl_X_186 : Cond.constantLong "InjectorTree" 186 (Int64.ofInt (-5)) ∈ zw := zw_of (i := 207) (by decide +kernel) rfl
theorem tw_ml_X_188 : Cond.methodLink "InjectorTree" 188 y_X_makeInstance ∈ zw := zw_of (i := 208) (by decide +kernel) rfl
theorem tw_im_X_makeInstance : Cond.instanceMethod y_X_makeInstance ∈ zw := zw_of (i := 210) (by decide +kernel) rfl
theorem tw_ml_X_192 : Cond.methodLink "InjectorTree" 192 arraycopyName ∈ zw := zw_of (i := 212) (by decide +kernel) rfl
theorem tw_st_acopy : Cond.static arraycopyName ∈ zw := zw_of (i := 213) (by decide +kernel) rfl
theorem tw_na_acopy : Cond.native arraycopyName ∈ zw := zw_of (i := 214) (by decide +kernel) rfl
theorem tw_ml_X_158 : Cond.methodLink "InjectorTree" 158 y_X_unmakeFrom ∈ zw := zw_of (i := 215) (by decide +kernel) rfl
theorem tw_im_X_unmakeFrom : Cond.instanceMethod y_X_unmakeFrom ∈ zw := zw_of (i := 217) (by decide +kernel) rfl
theorem tw_ml_L_59 : Cond.methodLink "InjectorTreeLaw" 59 y_X_ask ∈ zw := zw_of (i := 219) (by decide +kernel) rfl
theorem tw_im_X_ask : Cond.instanceMethod y_X_ask ∈ zw := zw_of (i := 220) (by decide +kernel) rfl
theorem tw_se_X_ask : Cond.selects "InjectorTree" y_X_ask y_X_ask ∈ zw := zw_of (i := 221) (by decide +kernel) rfl
theorem tw_ml_X_100 : Cond.methodLink "InjectorTree" 100 y_X_makerOf ∈ zw := zw_of (i := 223) (by decide +kernel) rfl
theorem tw_im_X_makerOf : Cond.instanceMethod y_X_makerOf ∈ zw := zw_of (i := 225) (by decide +kernel) rfl
theorem tw_ml_X_104 : Cond.methodLink "InjectorTree" 104 y_X_hasNeed ∈ zw := zw_of (i := 227) (by decide +kernel) rfl
theorem tw_st_X_hasNeed : Cond.static y_X_hasNeed ∈ zw := zw_of (i := 228) (by decide +kernel) rfl
theorem tw_ml_L_63 : Cond.methodLink "InjectorTreeLaw" 63 y_X_held ∈ zw := zw_of (i := 230) (by decide +kernel) rfl
theorem tw_im_X_held : Cond.instanceMethod y_X_held ∈ zw := zw_of (i := 231) (by decide +kernel) rfl
theorem tw_se_X_held : Cond.selects "InjectorTree" y_X_held y_X_held ∈ zw := zw_of (i := 232) (by decide +kernel) rfl
theorem tw_ml_L_67 : Cond.methodLink "InjectorTreeLaw" 67 y_X_about ∈ zw := zw_of (i := 234) (by decide +kernel) rfl
theorem tw_im_X_about : Cond.instanceMethod y_X_about ∈ zw := zw_of (i := 235) (by decide +kernel) rfl
theorem tw_se_X_about : Cond.selects "InjectorTree" y_X_about y_X_about ∈ zw := zw_of (i := 236) (by decide +kernel) rfl
theorem tw_ml_L_71 : Cond.methodLink "InjectorTreeLaw" 71 y_X_broken ∈ zw := zw_of (i := 238) (by decide +kernel) rfl
theorem tw_im_X_broken : Cond.instanceMethod y_X_broken ∈ zw := zw_of (i := 239) (by decide +kernel) rfl
theorem tw_se_X_broken : Cond.selects "InjectorTree" y_X_broken y_X_broken ∈ zw := zw_of (i := 240) (by decide +kernel) rfl
theorem tw_ml_X_128 : Cond.methodLink "InjectorTree" 128 y_X_wouldFail ∈ zw := zw_of (i := 242) (by decide +kernel) rfl
theorem tw_im_X_wouldFail : Cond.instanceMethod y_X_wouldFail ∈ zw := zw_of (i := 244) (by decide +kernel) rfl
theorem tw_ml_L_75 : Cond.methodLink "InjectorTreeLaw" 75 y_X_reach ∈ zw := zw_of (i := 246) (by decide +kernel) rfl
theorem tw_im_X_reach : Cond.instanceMethod y_X_reach ∈ zw := zw_of (i := 247) (by decide +kernel) rfl
theorem tw_se_X_reach : Cond.selects "InjectorTree" y_X_reach y_X_reach ∈ zw := zw_of (i := 248) (by decide +kernel) rfl
theorem tw_ml_X_131 : Cond.methodLink "InjectorTree" 131 y_J_numberOfTrailingZeros ∈ zw := zw_of (i := 250) (by decide +kernel) rfl
theorem tw_st_J_numberOfTrailingZeros : Cond.static y_J_numberOfTrailingZeros ∈ zw := zw_of (i := 251) (by decide +kernel) rfl
theorem tw_ml_J_311 : Cond.methodLink "java/lang/Long" 311 y_I_numberOfTrailingZeros ∈ zw := zw_of (i := 253) (by decide +kernel) rfl
theorem tw_st_I_numberOfTrailingZeros : Cond.static y_I_numberOfTrailingZeros ∈ zw := zw_of (i := 254) (by decide +kernel) rfl
theorem tw_ki_I_264 : Cond.constant "java/lang/Integer" 264 (Int32.ofInt 65536) ∈ zw := zw_of (i := 256) (by decide +kernel) rfl
theorem tw_ml_X_137 : Cond.methodLink "InjectorTree" 137 y_X_nextPairs ∈ zw := zw_of (i := 257) (by decide +kernel) rfl
theorem tw_im_X_nextPairs : Cond.instanceMethod y_X_nextPairs ∈ zw := zw_of (i := 259) (by decide +kernel) rfl
theorem tw_ml_X_140 : Cond.methodLink "InjectorTree" 140 y_X_keysOf ∈ zw := zw_of (i := 261) (by decide +kernel) rfl
theorem tw_st_X_keysOf : Cond.static y_X_keysOf ∈ zw := zw_of (i := 262) (by decide +kernel) rfl
theorem tw_ml_L_79 : Cond.methodLink "InjectorTreeLaw" 79 y_X_home ∈ zw := zw_of (i := 264) (by decide +kernel) rfl
theorem tw_im_X_home : Cond.instanceMethod y_X_home ∈ zw := zw_of (i := 265) (by decide +kernel) rfl
theorem tw_se_X_home : Cond.selects "InjectorTree" y_X_home y_X_home ∈ zw := zw_of (i := 266) (by decide +kernel) rfl
theorem tw_ml_L_83 : Cond.methodLink "InjectorTreeLaw" 83 y_X_count ∈ zw := zw_of (i := 268) (by decide +kernel) rfl
theorem tw_im_X_count : Cond.instanceMethod y_X_count ∈ zw := zw_of (i := 269) (by decide +kernel) rfl
theorem tw_se_X_count : Cond.selects "InjectorTree" y_X_count y_X_count ∈ zw := zw_of (i := 270) (by decide +kernel) rfl
theorem tw_ml_X_146 : Cond.methodLink "InjectorTree" 146 y_X_countBindings ∈ zw := zw_of (i := 272) (by decide +kernel) rfl
theorem tw_im_X_countBindings : Cond.instanceMethod y_X_countBindings ∈ zw := zw_of (i := 274) (by decide +kernel) rfl
theorem tw_cl_L_10 : Cond.classLink "InjectorTreeLaw" 10 "InjectorTreeModel" ∈ zw := zw_of (i := 276) (by decide +kernel) rfl
theorem tw_is_M : Cond.instantiable "InjectorTreeModel" 28 ∈ zw := zw_of (i := 277) (by decide +kernel) rfl
theorem tw_ml_L_12 : Cond.methodLink "InjectorTreeLaw" 12 y_M_init ∈ zw := zw_of (i := 278) (by decide +kernel) rfl
theorem tw_im_M_init : Cond.instanceMethod y_M_init ∈ zw := zw_of (i := 279) (by decide +kernel) rfl
theorem tw_ml_M_1 : Cond.methodLink "InjectorTreeModel" 1 objectInit ∈ zw := zw_of (i := 281) (by decide +kernel) rfl
theorem tw_fl_M_7 : Cond.fieldLink "InjectorTreeModel" 7 "InjectorTreeModel" "parent" "[I" ∈ zw := zw_of (i := 282) (by decide +kernel) rfl
theorem tw_fl_M_13 : Cond.fieldLink "InjectorTreeModel" 13 "InjectorTreeModel" "injectors" "I" ∈ zw := zw_of (i := 283) (by decide +kernel) rfl
theorem tw_fl_M_17 : Cond.fieldLink "InjectorTreeModel" 17 "InjectorTreeModel" "bufKey" "[I" ∈ zw := zw_of (i := 284) (by decide +kernel) rfl
theorem tw_fl_M_20 : Cond.fieldLink "InjectorTreeModel" 20 "InjectorTreeModel" "bufLazy" "[Z" ∈ zw := zw_of (i := 285) (by decide +kernel) rfl
theorem tw_fl_M_85 : Cond.fieldLink "InjectorTreeModel" 85 "InjectorTreeModel" "buffered" "I" ∈ zw := zw_of (i := 286) (by decide +kernel) rfl
theorem tw_fl_M_24 : Cond.fieldLink "InjectorTreeModel" 24 "InjectorTreeModel" "kind" "[I" ∈ zw := zw_of (i := 287) (by decide +kernel) rfl
theorem tw_fl_M_27 : Cond.fieldLink "InjectorTreeModel" 27 "InjectorTreeModel" "number" "[I" ∈ zw := zw_of (i := 288) (by decide +kernel) rfl
theorem tw_fl_M_30 : Cond.fieldLink "InjectorTreeModel" 30 "InjectorTreeModel" "scope" "[I" ∈ zw := zw_of (i := 289) (by decide +kernel) rfl
theorem tw_fl_M_33 : Cond.fieldLink "InjectorTreeModel" 33 "InjectorTreeModel" "needs" "[I" ∈ zw := zw_of (i := 290) (by decide +kernel) rfl
theorem tw_fl_M_36 : Cond.fieldLink "InjectorTreeModel" 36 "InjectorTreeModel" "needKey" "[I" ∈ zw := zw_of (i := 291) (by decide +kernel) rfl
theorem tw_fl_M_39 : Cond.fieldLink "InjectorTreeModel" 39 "InjectorTreeModel" "needLazy" "[Z" ∈ zw := zw_of (i := 292) (by decide +kernel) rfl
theorem tw_fl_M_42 : Cond.fieldLink "InjectorTreeModel" 42 "InjectorTreeModel" "single" "[I" ∈ zw := zw_of (i := 293) (by decide +kernel) rfl
theorem tw_fl_M_45 : Cond.fieldLink "InjectorTreeModel" 45 "InjectorTreeModel" "request" "[I" ∈ zw := zw_of (i := 294) (by decide +kernel) rfl
theorem tw_fl_M_48 : Cond.fieldLink "InjectorTreeModel" 48 "InjectorTreeModel" "oldSingle" "[I" ∈ zw := zw_of (i := 295) (by decide +kernel) rfl
theorem tw_fl_M_51 : Cond.fieldLink "InjectorTreeModel" 51 "InjectorTreeModel" "oldRequest" "[I" ∈ zw := zw_of (i := 296) (by decide +kernel) rfl
theorem tw_fl_M_100 : Cond.fieldLink "InjectorTreeModel" 100 "InjectorTreeModel" "open" "Z" ∈ zw := zw_of (i := 297) (by decide +kernel) rfl
theorem tw_fl_M_54 : Cond.fieldLink "InjectorTreeModel" 54 "InjectorTreeModel" "iKey" "[I" ∈ zw := zw_of (i := 298) (by decide +kernel) rfl
theorem tw_fl_M_57 : Cond.fieldLink "InjectorTreeModel" 57 "InjectorTreeModel" "iInjector" "[I" ∈ zw := zw_of (i := 299) (by decide +kernel) rfl
theorem tw_fl_M_60 : Cond.fieldLink "InjectorTreeModel" 60 "InjectorTreeModel" "iScope" "[I" ∈ zw := zw_of (i := 300) (by decide +kernel) rfl
theorem tw_fl_M_63 : Cond.fieldLink "InjectorTreeModel" 63 "InjectorTreeModel" "iNeeds" "[I" ∈ zw := zw_of (i := 301) (by decide +kernel) rfl
theorem tw_fl_M_66 : Cond.fieldLink "InjectorTreeModel" 66 "InjectorTreeModel" "iNeedKey" "[I" ∈ zw := zw_of (i := 302) (by decide +kernel) rfl
theorem tw_fl_M_69 : Cond.fieldLink "InjectorTreeModel" 69 "InjectorTreeModel" "iLazy" "[Z" ∈ zw := zw_of (i := 303) (by decide +kernel) rfl
theorem tw_fl_M_72 : Cond.fieldLink "InjectorTreeModel" 72 "InjectorTreeModel" "iValue" "[J" ∈ zw := zw_of (i := 304) (by decide +kernel) rfl
theorem tw_fl_M_129 : Cond.fieldLink "InjectorTreeModel" 129 "InjectorTreeModel" "made" "I" ∈ zw := zw_of (i := 305) (by decide +kernel) rfl
theorem tw_fl_M_76 : Cond.fieldLink "InjectorTreeModel" 76 "InjectorTreeModel" "pile" "[I" ∈ zw := zw_of (i := 306) (by decide +kernel) rfl
theorem tw_fl_M_79 : Cond.fieldLink "InjectorTreeModel" 79 "InjectorTreeModel" "got" "[I" ∈ zw := zw_of (i := 307) (by decide +kernel) rfl
theorem tw_fl_M_82 : Cond.fieldLink "InjectorTreeModel" 82 "InjectorTreeModel" "values" "[J" ∈ zw := zw_of (i := 308) (by decide +kernel) rfl
theorem tw_fl_M_108 : Cond.fieldLink "InjectorTreeModel" 108 "InjectorTreeModel" "top" "I" ∈ zw := zw_of (i := 309) (by decide +kernel) rfl
theorem tw_ml_L_17 : Cond.methodLink "InjectorTreeLaw" 17 y_M_child ∈ zw := zw_of (i := 367) (by decide +kernel) rfl
theorem tw_im_M_child : Cond.instanceMethod y_M_child ∈ zw := zw_of (i := 368) (by decide +kernel) rfl
theorem tw_se_M_child : Cond.selects "InjectorTreeModel" y_M_child y_M_child ∈ zw := zw_of (i := 369) (by decide +kernel) rfl
theorem tw_ml_L_22 : Cond.methodLink "InjectorTreeLaw" 22 y_M_need ∈ zw := zw_of (i := 371) (by decide +kernel) rfl
theorem tw_im_M_need : Cond.instanceMethod y_M_need ∈ zw := zw_of (i := 372) (by decide +kernel) rfl
theorem tw_se_M_need : Cond.selects "InjectorTreeModel" y_M_need y_M_need ∈ zw := zw_of (i := 373) (by decide +kernel) rfl
theorem tw_ml_L_27 : Cond.methodLink "InjectorTreeLaw" 27 y_M_drop ∈ zw := zw_of (i := 375) (by decide +kernel) rfl
theorem tw_im_M_drop : Cond.instanceMethod y_M_drop ∈ zw := zw_of (i := 376) (by decide +kernel) rfl
theorem tw_se_M_drop : Cond.selects "InjectorTreeModel" y_M_drop y_M_drop ∈ zw := zw_of (i := 377) (by decide +kernel) rfl
theorem tw_ml_L_32 : Cond.methodLink "InjectorTreeLaw" 32 y_M_bindConstant ∈ zw := zw_of (i := 379) (by decide +kernel) rfl
theorem tw_im_M_bindConstant : Cond.instanceMethod y_M_bindConstant ∈ zw := zw_of (i := 380) (by decide +kernel) rfl
theorem tw_se_M_bindConstant : Cond.selects "InjectorTreeModel" y_M_bindConstant y_M_bindConstant ∈ zw := zw_of (i := 381) (by decide +kernel) rfl
theorem tw_ml_M_92 : Cond.methodLink "InjectorTreeModel" 92 y_M_bind ∈ zw := zw_of (i := 383) (by decide +kernel) rfl
theorem tw_im_M_bind : Cond.instanceMethod y_M_bind ∈ zw := zw_of (i := 385) (by decide +kernel) rfl
theorem tw_ml_M_88 : Cond.methodLink "InjectorTreeModel" 88 y_M_noPair ∈ zw := zw_of (i := 387) (by decide +kernel) rfl
theorem tw_im_M_noPair : Cond.instanceMethod y_M_noPair ∈ zw := zw_of (i := 389) (by decide +kernel) rfl
theorem tw_ml_L_36 : Cond.methodLink "InjectorTreeLaw" 36 y_M_bindLink ∈ zw := zw_of (i := 391) (by decide +kernel) rfl
theorem tw_im_M_bindLink : Cond.instanceMethod y_M_bindLink ∈ zw := zw_of (i := 392) (by decide +kernel) rfl
theorem tw_se_M_bindLink : Cond.selects "InjectorTreeModel" y_M_bindLink y_M_bindLink ∈ zw := zw_of (i := 393) (by decide +kernel) rfl
theorem tw_ml_L_40 : Cond.methodLink "InjectorTreeLaw" 40 y_M_bindClass ∈ zw := zw_of (i := 395) (by decide +kernel) rfl
theorem tw_im_M_bindClass : Cond.instanceMethod y_M_bindClass ∈ zw := zw_of (i := 396) (by decide +kernel) rfl
theorem tw_se_M_bindClass : Cond.selects "InjectorTreeModel" y_M_bindClass y_M_bindClass ∈ zw := zw_of (i := 397) (by decide +kernel) rfl
theorem tw_ml_M_96 : Cond.methodLink "InjectorTreeModel" 96 y_M_drop ∈ zw := zw_of (i := 399) (by decide +kernel) rfl
theorem tw_ml_L_45 : Cond.methodLink "InjectorTreeLaw" 45 y_M_unbind ∈ zw := zw_of (i := 400) (by decide +kernel) rfl
theorem tw_im_M_unbind : Cond.instanceMethod y_M_unbind ∈ zw := zw_of (i := 401) (by decide +kernel) rfl
theorem tw_se_M_unbind : Cond.selects "InjectorTreeModel" y_M_unbind y_M_unbind ∈ zw := zw_of (i := 402) (by decide +kernel) rfl
theorem tw_ml_L_49 : Cond.methodLink "InjectorTreeLaw" 49 y_M_open ∈ zw := zw_of (i := 404) (by decide +kernel) rfl
theorem tw_im_M_open : Cond.instanceMethod y_M_open ∈ zw := zw_of (i := 405) (by decide +kernel) rfl
theorem tw_se_M_open : Cond.selects "InjectorTreeModel" y_M_open y_M_open ∈ zw := zw_of (i := 406) (by decide +kernel) rfl
theorem tw_ml_L_53 : Cond.methodLink "InjectorTreeLaw" 53 y_M_close ∈ zw := zw_of (i := 408) (by decide +kernel) rfl
theorem tw_im_M_close : Cond.instanceMethod y_M_close ∈ zw := zw_of (i := 409) (by decide +kernel) rfl
theorem tw_se_M_close : Cond.selects "InjectorTreeModel" y_M_close y_M_close ∈ zw := zw_of (i := 410) (by decide +kernel) rfl
theorem tw_ml_M_104 : Cond.methodLink "InjectorTreeModel" 104 y_M_filled ∈ zw := zw_of (i := 412) (by decide +kernel) rfl
theorem tw_st_M_filled : Cond.static y_M_filled ∈ zw := zw_of (i := 413) (by decide +kernel) rfl
theorem tw_ml_L_58 : Cond.methodLink "InjectorTreeLaw" 58 y_M_get ∈ zw := zw_of (i := 415) (by decide +kernel) rfl
theorem tw_im_M_get : Cond.instanceMethod y_M_get ∈ zw := zw_of (i := 416) (by decide +kernel) rfl
theorem tw_se_M_get : Cond.selects "InjectorTreeModel" y_M_get y_M_get ∈ zw := zw_of (i := 417) (by decide +kernel) rfl
theorem tw_kl_M_152 : Cond.constantLong "InjectorTreeModel" 152 (Int64.ofInt (-1)) ∈ zw := zw_of (i := 419) (by decide +kernel) rfl
theorem tw_ml_M_154 : Cond.methodLink "InjectorTreeModel" 154 y_M_keepCopies ∈ zw := zw_of (i := 420) (by decide +kernel) rfl
theorem tw_im_M_keepCopies : Cond.instanceMethod y_M_keepCopies ∈ zw := zw_of (i := 422) (by decide +kernel) rfl
theorem tw_ml_M_157 : Cond.methodLink "InjectorTreeModel" 157 y_M_gets ∈ zw := zw_of (i := 424) (by decide +kernel) rfl
theorem tw_im_M_gets : Cond.instanceMethod y_M_gets ∈ zw := zw_of (i := 426) (by decide +kernel) rfl
theorem tw_ml_M_134 : Cond.methodLink "InjectorTreeModel" 134 y_M_begin ∈ zw := zw_of (i := 428) (by decide +kernel) rfl
theorem tw_im_M_begin : Cond.instanceMethod y_M_begin ∈ zw := zw_of (i := 430) (by decide +kernel) rfl
theorem tw_ml_M_111 : Cond.methodLink "InjectorTreeModel" 111 y_M_seen ∈ zw := zw_of (i := 432) (by decide +kernel) rfl
theorem tw_im_M_seen : Cond.instanceMethod y_M_seen ∈ zw := zw_of (i := 434) (by decide +kernel) rfl
theorem tw_kl_M_115 : Cond.constantLong "InjectorTreeModel" 115 (Int64.ofInt (-2)) ∈ zw := zw_of (i := 436) (by decide +kernel) rfl
theorem tw_kl_M_117 : Cond.constantLong "InjectorTreeModel" 117 (Int64.ofInt 10000000000) ∈ zw := zw_of (i := 437) (by decide +kernel) rfl
theorem tw_ml_M_119 : Cond.methodLink "InjectorTreeModel" 119 y_M_working ∈ zw := zw_of (i := 438) (by decide +kernel) rfl
theorem tw_im_M_working : Cond.instanceMethod y_M_working ∈ zw := zw_of (i := 440) (by decide +kernel) rfl
theorem tw_kl_M_123 : Cond.constantLong "InjectorTreeModel" 123 (Int64.ofInt (-3)) ∈ zw := zw_of (i := 442) (by decide +kernel) rfl
theorem tw_kl_M_125 : Cond.constantLong "InjectorTreeModel" 125 (Int64.ofInt (-4)) ∈ zw := zw_of (i := 443) (by decide +kernel) rfl
theorem tw_kl_M_127 : Cond.constantLong "InjectorTreeModel" 127 (Int64.ofInt (-100)) ∈ zw := zw_of (i := 444) (by decide +kernel) rfl
theorem tw_ki_M_143 : Cond.constant "InjectorTreeModel" 143 (Int32.ofInt 100000) ∈ zw := zw_of (i := 445) (by decide +kernel) rfl
theorem tw_ml_M_144 : Cond.methodLink "InjectorTreeModel" 144 y_M_work ∈ zw := zw_of (i := 446) (by decide +kernel) rfl
theorem tw_im_M_work : Cond.instanceMethod y_M_work ∈ zw := zw_of (i := 448) (by decide +kernel) rfl
theorem tw_kl_M_138 : Cond.constantLong "InjectorTreeModel" 138 (Int64.ofInt 20000000000) ∈ zw := zw_of (i := 450) (by decide +kernel) rfl
theorem tw_ml_M_140 : Cond.methodLink "InjectorTreeModel" 140 y_M_make ∈ zw := zw_of (i := 451) (by decide +kernel) rfl
theorem tw_im_M_make : Cond.instanceMethod y_M_make ∈ zw := zw_of (i := 453) (by decide +kernel) rfl
theorem tw_kl_M_132 : Cond.constantLong "InjectorTreeModel" 132 (Int64.ofInt (-5)) ∈ zw := zw_of (i := 455) (by decide +kernel) rfl
theorem tw_ml_M_148 : Cond.methodLink "InjectorTreeModel" 148 y_M_took ∈ zw := zw_of (i := 456) (by decide +kernel) rfl
theorem tw_im_M_took : Cond.instanceMethod y_M_took ∈ zw := zw_of (i := 458) (by decide +kernel) rfl
theorem tw_ml_M_160 : Cond.methodLink "InjectorTreeModel" 160 y_M_takeBack ∈ zw := zw_of (i := 460) (by decide +kernel) rfl
theorem tw_im_M_takeBack : Cond.instanceMethod y_M_takeBack ∈ zw := zw_of (i := 462) (by decide +kernel) rfl
theorem tw_ml_L_62 : Cond.methodLink "InjectorTreeLaw" 62 y_M_ask ∈ zw := zw_of (i := 464) (by decide +kernel) rfl
theorem tw_im_M_ask : Cond.instanceMethod y_M_ask ∈ zw := zw_of (i := 465) (by decide +kernel) rfl
theorem tw_se_M_ask : Cond.selects "InjectorTreeModel" y_M_ask y_M_ask ∈ zw := zw_of (i := 466) (by decide +kernel) rfl
theorem tw_ml_M_164 : Cond.methodLink "InjectorTreeModel" 164 y_M_noNeed ∈ zw := zw_of (i := 468) (by decide +kernel) rfl
theorem tw_im_M_noNeed : Cond.instanceMethod y_M_noNeed ∈ zw := zw_of (i := 470) (by decide +kernel) rfl
theorem tw_ml_M_167 : Cond.methodLink "InjectorTreeModel" 167 y_M_get ∈ zw := zw_of (i := 472) (by decide +kernel) rfl
theorem tw_ml_L_66 : Cond.methodLink "InjectorTreeLaw" 66 y_M_held ∈ zw := zw_of (i := 473) (by decide +kernel) rfl
theorem tw_im_M_held : Cond.instanceMethod y_M_held ∈ zw := zw_of (i := 474) (by decide +kernel) rfl
theorem tw_se_M_held : Cond.selects "InjectorTreeModel" y_M_held y_M_held ∈ zw := zw_of (i := 475) (by decide +kernel) rfl
theorem tw_ml_L_70 : Cond.methodLink "InjectorTreeLaw" 70 y_M_about ∈ zw := zw_of (i := 477) (by decide +kernel) rfl
theorem tw_im_M_about : Cond.instanceMethod y_M_about ∈ zw := zw_of (i := 478) (by decide +kernel) rfl
theorem tw_se_M_about : Cond.selects "InjectorTreeModel" y_M_about y_M_about ∈ zw := zw_of (i := 479) (by decide +kernel) rfl
theorem tw_ml_L_74 : Cond.methodLink "InjectorTreeLaw" 74 y_M_broken ∈ zw := zw_of (i := 481) (by decide +kernel) rfl
theorem tw_im_M_broken : Cond.instanceMethod y_M_broken ∈ zw := zw_of (i := 482) (by decide +kernel) rfl
theorem tw_se_M_broken : Cond.selects "InjectorTreeModel" y_M_broken y_M_broken ∈ zw := zw_of (i := 483) (by decide +kernel) rfl
theorem tw_ml_L_78 : Cond.methodLink "InjectorTreeLaw" 78 y_M_reach ∈ zw := zw_of (i := 485) (by decide +kernel) rfl
theorem tw_im_M_reach : Cond.instanceMethod y_M_reach ∈ zw := zw_of (i := 486) (by decide +kernel) rfl
theorem tw_se_M_reach : Cond.selects "InjectorTreeModel" y_M_reach y_M_reach ∈ zw := zw_of (i := 487) (by decide +kernel) rfl
theorem tw_ml_L_82 : Cond.methodLink "InjectorTreeLaw" 82 y_M_home ∈ zw := zw_of (i := 489) (by decide +kernel) rfl
theorem tw_im_M_home : Cond.instanceMethod y_M_home ∈ zw := zw_of (i := 490) (by decide +kernel) rfl
theorem tw_se_M_home : Cond.selects "InjectorTreeModel" y_M_home y_M_home ∈ zw := zw_of (i := 491) (by decide +kernel) rfl
theorem tw_ml_L_86 : Cond.methodLink "InjectorTreeLaw" 86 y_M_count ∈ zw := zw_of (i := 493) (by decide +kernel) rfl
theorem tw_im_M_count : Cond.instanceMethod y_M_count ∈ zw := zw_of (i := 494) (by decide +kernel) rfl
theorem tw_se_M_count : Cond.selects "InjectorTreeModel" y_M_count y_M_count ∈ zw := zw_of (i := 495) (by decide +kernel) rfl
theorem tw_se_X_isInjector : Cond.selects "InjectorTree" y_X_isInjector y_X_isInjector ∈ zw := zw_sel (q := (y_X_isInjector, 9)) (i := 0) (by decide +kernel)
theorem tw_se_N_append : Cond.selects "InjectorTree$Needs" y_N_append y_N_append ∈ zw := zw_sel (q := (y_N_append, 3)) (i := 1) (by decide +kernel)
theorem tw_se_X_isUnbound : Cond.selects "InjectorTree" y_X_isUnbound y_X_isUnbound ∈ zw := zw_sel (q := (y_X_isUnbound, 9)) (i := 2) (by decide +kernel)
theorem tw_se_X_isPair : Cond.selects "InjectorTree" y_X_isPair y_X_isPair ∈ zw := zw_sel (q := (y_X_isPair, 9)) (i := 3) (by decide +kernel)
theorem tw_se_X_countKept : Cond.selects "InjectorTree" y_X_countKept y_X_countKept ∈ zw := zw_sel (q := (y_X_countKept, 9)) (i := 4) (by decide +kernel)
theorem tw_se_X_obtainFromOutside : Cond.selects "InjectorTree" y_X_obtainFromOutside y_X_obtainFromOutside ∈ zw := zw_sel (q := (y_X_obtainFromOutside, 9)) (i := 5) (by decide +kernel)
theorem tw_se_X_obtain : Cond.selects "InjectorTree" y_X_obtain y_X_obtain ∈ zw := zw_sel (q := (y_X_obtain, 9)) (i := 6) (by decide +kernel)
theorem tw_se_X_seenFrom : Cond.selects "InjectorTree" y_X_seenFrom y_X_seenFrom ∈ zw := zw_sel (q := (y_X_seenFrom, 9)) (i := 7) (by decide +kernel)
theorem tw_se_X_obtainNew : Cond.selects "InjectorTree" y_X_obtainNew y_X_obtainNew ∈ zw := zw_sel (q := (y_X_obtainNew, 9)) (i := 8) (by decide +kernel)
theorem tw_se_X_makeInstance : Cond.selects "InjectorTree" y_X_makeInstance y_X_makeInstance ∈ zw := zw_sel (q := (y_X_makeInstance, 9)) (i := 9) (by decide +kernel)
theorem tw_se_X_unmakeFrom : Cond.selects "InjectorTree" y_X_unmakeFrom y_X_unmakeFrom ∈ zw := zw_sel (q := (y_X_unmakeFrom, 9)) (i := 10) (by decide +kernel)
theorem tw_se_X_makerOf : Cond.selects "InjectorTree" y_X_makerOf y_X_makerOf ∈ zw := zw_sel (q := (y_X_makerOf, 9)) (i := 11) (by decide +kernel)
theorem tw_se_X_wouldFail : Cond.selects "InjectorTree" y_X_wouldFail y_X_wouldFail ∈ zw := zw_sel (q := (y_X_wouldFail, 9)) (i := 12) (by decide +kernel)
theorem tw_se_X_nextPairs : Cond.selects "InjectorTree" y_X_nextPairs y_X_nextPairs ∈ zw := zw_sel (q := (y_X_nextPairs, 9)) (i := 13) (by decide +kernel)
theorem tw_se_X_countBindings : Cond.selects "InjectorTree" y_X_countBindings y_X_countBindings ∈ zw := zw_sel (q := (y_X_countBindings, 9)) (i := 14) (by decide +kernel)
theorem tw_se_M_bind : Cond.selects "InjectorTreeModel" y_M_bind y_M_bind ∈ zw := zw_sel (q := (y_M_bind, 28)) (i := 15) (by decide +kernel)
theorem tw_se_M_noPair : Cond.selects "InjectorTreeModel" y_M_noPair y_M_noPair ∈ zw := zw_sel (q := (y_M_noPair, 28)) (i := 16) (by decide +kernel)
theorem tw_se_M_keepCopies : Cond.selects "InjectorTreeModel" y_M_keepCopies y_M_keepCopies ∈ zw := zw_sel (q := (y_M_keepCopies, 28)) (i := 17) (by decide +kernel)
theorem tw_se_M_gets : Cond.selects "InjectorTreeModel" y_M_gets y_M_gets ∈ zw := zw_sel (q := (y_M_gets, 28)) (i := 18) (by decide +kernel)
theorem tw_se_M_begin : Cond.selects "InjectorTreeModel" y_M_begin y_M_begin ∈ zw := zw_sel (q := (y_M_begin, 28)) (i := 19) (by decide +kernel)
theorem tw_se_M_seen : Cond.selects "InjectorTreeModel" y_M_seen y_M_seen ∈ zw := zw_sel (q := (y_M_seen, 28)) (i := 20) (by decide +kernel)
theorem tw_se_M_working : Cond.selects "InjectorTreeModel" y_M_working y_M_working ∈ zw := zw_sel (q := (y_M_working, 28)) (i := 21) (by decide +kernel)
theorem tw_se_M_work : Cond.selects "InjectorTreeModel" y_M_work y_M_work ∈ zw := zw_sel (q := (y_M_work, 28)) (i := 22) (by decide +kernel)
theorem tw_se_M_make : Cond.selects "InjectorTreeModel" y_M_make y_M_make ∈ zw := zw_sel (q := (y_M_make, 28)) (i := 23) (by decide +kernel)
theorem tw_se_M_took : Cond.selects "InjectorTreeModel" y_M_took y_M_took ∈ zw := zw_sel (q := (y_M_took, 28)) (i := 24) (by decide +kernel)
theorem tw_se_M_takeBack : Cond.selects "InjectorTreeModel" y_M_takeBack y_M_takeBack ∈ zw := zw_sel (q := (y_M_takeBack, 28)) (i := 25) (by decide +kernel)
theorem tw_se_M_noNeed : Cond.selects "InjectorTreeModel" y_M_noNeed y_M_noNeed ∈ zw := zw_sel (q := (y_M_noNeed, 28)) (i := 26) (by decide +kernel)
set_option maxRecDepth 20000 in
theorem in_B : ∀ w ∈ u_ws R_B T_B 8, w ∈ zw := by decide +kernel
set_option maxRecDepth 20000 in
theorem in_N : ∀ w ∈ u_ws R_N T_N 3, w ∈ zw := by decide +kernel
set_option maxRecDepth 20000 in
theorem in_X : ∀ w ∈ u_ws R_X T_X 9, w ∈ zw := by decide +kernel
set_option maxRecDepth 20000 in
theorem in_M : ∀ w ∈ u_ws R_M T_M 28, w ∈ zw := by decide +kernel
