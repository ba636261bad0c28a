section
/-! ROWS OF THE WALK, own words. zh: the heap as a partial map from addresses to pictures of cells. zG: the heap holds the map. zJ: from this place of a method, with this map, these locals, this stack, the method comes to Q. Numbers on the stack are Ints (iv, jv). -/
abbrev zh : Type := Nat → Option va_E
def zput (σ : zh) (a : Nat) (e : va_E) : zh := fun b => if b = a then some e else σ b
theorem zput_s (σ : zh) (a : Nat) (e : va_E) : zput σ a e a = some e := by simp [zput]
theorem zput_n {σ : zh} {a b : Nat} {e : va_E} (h : b ≠ a) : zput σ a e b = σ b := by simp [zput, h]
theorem zput_o {σ : zh} {a b : Nat} {e e0 e1 : va_E} (h0 : σ a = some e0) (h1 : σ b = some e1) (h : e0 ≠ e1) : zput σ a e b = some e1 := by
  rw [zput_n (fun q => h (by rw [q, h0] at h1; exact Option.some.inj h1))]; exact h1
def zG (D : va_G) (cl : List vw_C) (A : Nat → Prop) (σ : zh) (H : Heap) : Prop := ∃ ws : va_W, va_P D cl ws H ∧ va_D A ws ∧ ∀ (a : Nat) (e : va_E), σ a = some e → ∃ k : Nat, ws[k]? = some (a, e)
theorem zG.lt {D : va_G} {cl : List vw_C} {A : Nat → Prop} {σ : zh} {H : Heap} (h : zG D cl A σ H) {a : Nat} {e : va_E} (ha : σ a = some e) : a < H.size := by
  obtain ⟨ws, hP, -, hw⟩ := h
  obtain ⟨k, hk⟩ := hw a e ha
  exact (hP k _ hk).lt
theorem zG.set {D : va_G} {cl : List vw_C} {A : Nat → Prop} {σ : zh} {H1 : Heap} {ws : va_W} {k a : Nat} {e0 e : va_E} (hw : ∀ (a : Nat) (e : va_E), σ a = some e → ∃ k : Nat, ws[k]? = some (a, e)) (hk : ws[k]? = some (a, e0)) (hP : va_P D cl (ws.set k (a, e)) H1) (hD : va_D A (ws.set k (a, e))) : zG D cl A (zput σ a e) H1 := by
  have hl := (List.getElem?_eq_some_iff.mp hk).1
  refine ⟨_, hP, hD, fun b x hb => ?_⟩
  by_cases h : b = a
  · subst h
    rw [zput_s] at hb
    cases hb
    exact ⟨k, List.getElem?_set_self hl⟩
  · rw [zput_n h] at hb
    obtain ⟨j, hj⟩ := hw b x hb
    refine ⟨j, ?_⟩
    rw [List.getElem?_set_ne ?_]
    · exact hj
    · rintro rfl
      rw [hk] at hj
      cases hj
      exact h rfl
theorem zG.push {D : va_G} {cl : List vw_C} {A : Nat → Prop} {σ : zh} {H1 : Heap} {ws : va_W} {a : Nat} {e : va_E} (hw : ∀ (a : Nat) (e : va_E), σ a = some e → ∃ k : Nat, ws[k]? = some (a, e)) (hP : va_P D cl (ws ++ [(a, e)]) H1) (hD : va_D A (ws ++ [(a, e)])) : zG D cl A (zput σ a e) H1 ∧ ∀ (b : Nat) (x : va_E), σ b = some x → b ≠ a := by
  have hla : (ws ++ [(a, e)])[ws.length]? = some (a, e) := by simp
  refine ⟨⟨_, hP, hD, fun b x hb => ?_⟩, fun b x hb => ?_⟩
  · by_cases h : b = a
    · subst h
      rw [zput_s] at hb
      cases hb
      exact ⟨ws.length, hla⟩
    · rw [zput_n h] at hb
      obtain ⟨j, hj⟩ := hw b x hb
      exact ⟨j, by rw [List.getElem?_append_left (List.getElem?_eq_some_iff.mp hj).1]; exact hj⟩
  · rintro rfl
    obtain ⟨j, hj⟩ := hw b x hb
    have hlt := (List.getElem?_eq_some_iff.mp hj).1
    have := hD.1 j ws.length (b, x) (b, e) (by rw [List.getElem?_append_left hlt]; exact hj) hla rfl
    omega
/-! numbers -/
abbrev iv (a : Int) : Value := .int (Int32.ofInt a)
abbrev jv (a : Int) : Value := .long (Int64.ofInt a)
abbrev ia (c : ClassId) (n : Nat) (f : Nat → Int) : va_E := .inl (c, n, .inl (fun j => Int32.ofInt (f j)))
abbrev la (c : ClassId) (n : Nat) (f : Nat → Int) : va_E := .inl (c, n, .inr (.inl (fun j => Int64.ofInt (f j))))
abbrev ra (c : ClassId) (n : Nat) (f : Nat → Option Nat) : va_E := .inl (c, n, .inr (.inr (.inr (.inr f))))
abbrev ob (ci : Nat) (fs : List Value) : va_E := .inr (ci, fs)
def iup (f : Nat → Int) (k : Nat) (v : Int) : Nat → Int := fun j => if j = k then v else f j
theorem iup_s (f : Nat → Int) (k : Nat) (v : Int) : iup f k v k = v := by simp [iup]
theorem iup_n {f : Nat → Int} {k j : Nat} {v : Int} (h : j ≠ k) : iup f k v j = f j := by simp [iup, h]
theorem z32 {a : Int} (h : -2147483648 ≤ a ∧ a ≤ 2147483647) : (Int32.ofInt a).toInt = a := Int32.toInt_ofInt_of_le (by omega) (by omega)
theorem z64 {a : Int} (h : -9223372036854775808 ≤ a ∧ a ≤ 9223372036854775807) : (Int64.ofInt a).toInt = a := Int64.toInt_ofInt_of_le (by omega) (by omega)
theorem z32r (x : Int32) : -2147483648 ≤ x.toInt ∧ x.toInt ≤ 2147483647 := by
  have h1 := x.le_toInt
  have h2 := x.toInt_lt
  omega
theorem z32_le {a b : Int} (ha : -2147483648 ≤ a ∧ a ≤ 2147483647) (hb : -2147483648 ≤ b ∧ b ≤ 2147483647) : Int32.ofInt a ≤ Int32.ofInt b ↔ a ≤ b := by rw [Int32.le_iff_toInt_le, z32 ha, z32 hb]
theorem z32_lt {a b : Int} (ha : -2147483648 ≤ a ∧ a ≤ 2147483647) (hb : -2147483648 ≤ b ∧ b ≤ 2147483647) : Int32.ofInt a < Int32.ofInt b ↔ a < b := by rw [Int32.lt_iff_toInt_lt, z32 ha, z32 hb]
theorem z32_eq {a b : Int} (ha : -2147483648 ≤ a ∧ a ≤ 2147483647) (hb : -2147483648 ≤ b ∧ b ≤ 2147483647) : Int32.ofInt a = Int32.ofInt b ↔ a = b := by rw [← Int32.toInt_inj, z32 ha, z32 hb]
theorem z64_lt {a b : Int} (ha : -9223372036854775808 ≤ a ∧ a ≤ 9223372036854775807) (hb : -9223372036854775808 ≤ b ∧ b ≤ 9223372036854775807) : Int64.ofInt a < Int64.ofInt b ↔ a < b := by rw [Int64.lt_iff_toInt_lt, z64 ha, z64 hb]
theorem z64_eq {a b : Int} (ha : -9223372036854775808 ≤ a ∧ a ≤ 9223372036854775807) (hb : -9223372036854775808 ≤ b ∧ b ≤ 9223372036854775807) : Int64.ofInt a = Int64.ofInt b ↔ a = b := by rw [← Int64.toInt_inj, z64 ha, z64 hb]
theorem z32_0 : Int32.ofInt 0 = 0 := by decide
theorem zidx {i : Int} {k : Nat} (hk : i = (k : Int)) (h : k ≤ 2147483647) : (Int32.ofInt i).toNatClampNeg = k := by
  rw [Int32.toNatClampNeg_ofInt_of_le (by omega) (by omega)]; omega
theorem zin {i : Int} {k n : Nat} (hk : i = (k : Int)) (h : k ≤ 2147483647) (hn : k < n) : vp_in (Int32.ofInt i) n := by
  rw [vp_in_iff, z32 (by omega)]; omega
theorem zup_i (f : Nat → Int) (k : Nat) (v : Int) : upd (fun j => Int32.ofInt (f j)) k (Int32.ofInt v) = fun j => Int32.ofInt (iup f k v j) := by
  funext j
  by_cases h : j = k
  · subst h; simp [upd, iup]
  · simp [upd, iup, h]
theorem zup_l (f : Nat → Int) (k : Nat) (v : Int) : vp_updL (fun j => Int64.ofInt (f j)) k (Int64.ofInt v) = fun j => Int64.ofInt (iup f k v j) := by
  funext j
  by_cases h : j = k
  · subst h; simp [vp_updL, iup]
  · simp [vp_updL, iup, h]
theorem znar {v : Int} (h : v = 0 ∨ v = 1) : vp_nar .boolean (Int32.ofInt v) = Int32.ofInt v := by
  rcases h with rfl | rfl <;> decide
theorem znarz {v : Int} (h : v = 0 ∨ v = 1) : narrow .boolean (.int (Int32.ofInt v)) = .int (Int32.ofInt v) := by
  rcases h with rfl | rfl <;> decide
theorem zfitz {v : Int} (h : v = 0 ∨ v = 1) : fits .boolean (.int (Int32.ofInt v)) = true := by
  rcases h with rfl | rfl <;> decide
/-! locals: a list, what is known of each place -/
def zL (ls : Array Slot) (nL : Nat) (lv : List (Option Value)) : Prop := ls.size = nL ∧ lv_wf ls ∧ lv.length = nL ∧ ∀ (i : Nat) (v : Value), lv[i]? = some (some v) → ls[i]? = some (.val v)
def zas (lv : List (Option Value)) : List (Nat × Value) := (List.range lv.length).filterMap fun i => (lv[i]?.join).map fun v => (i, v)
theorem zas_mem {lv : List (Option Value)} {i : Nat} {v : Value} : (i, v) ∈ zas lv ↔ lv[i]? = some (some v) := by
  unfold zas
  simp only [List.mem_filterMap, List.mem_range, Option.map_eq_some_iff, Prod.mk.injEq]
  constructor
  · rintro ⟨j, hj, w, hw, rfl, rfl⟩
    cases hq : lv[j]? with
    | none => rw [hq] at hw; cases hw
    | some o => rw [hq] at hw; cases o with
      | none => cases hw
      | some x => cases hw; rfl
  · intro h
    exact ⟨i, (List.getElem?_eq_some_iff.mp h).1, v, by rw [h]; rfl, rfl, rfl⟩
theorem zL.has {ls : Array Slot} {nL : Nat} {lv : List (Option Value)} (h : zL ls nL lv) : lv_has ls nL (zas lv) := ⟨h.1, h.2.1, fun q hq => h.2.2.2 q.1 q.2 (zas_mem.mp hq)⟩
def zkill (lv : List (Option Value)) (i : Nat) : List (Option Value) := match i with
  | 0 => lv
  | j + 1 => match lv[j]? with
    | some (some w) => if w.category = 2 then lv.set j none else lv
    | _ => lv
def zst1 (lv : List (Option Value)) (i : Nat) (v : Value) : List (Option Value) := (zkill lv i).set i (some v)
def zst2 (lv : List (Option Value)) (i : Nat) (v : Value) : List (Option Value) := ((zkill lv i).set i (some v)).set (i + 1) none
theorem zkill_len (lv : List (Option Value)) (i : Nat) : (zkill lv i).length = lv.length := by
  unfold zkill
  split
  · rfl
  · split
    · split <;> simp
    · rfl
theorem zkill_at {lv : List (Option Value)} {i j : Nat} {v : Value} (h : (zkill lv i)[j]? = some (some v)) (hj : j ≠ i) : lv[j]? = some (some v) ∧ ¬ (j + 1 = i ∧ v.category = 2) := by
  unfold zkill at h
  split at h
  · exact ⟨h, fun q => by omega⟩
  · rename_i n
    split at h
    · rename_i w hw
      split at h
      · rename_i hc
        by_cases hjn : j = n
        · subst hjn
          rw [List.getElem?_set_self (List.getElem?_eq_some_iff.mp hw).1] at h
          cases h
        · rw [List.getElem?_set_ne (Ne.symm hjn)] at h
          exact ⟨h, fun q => by omega⟩
      · rename_i hc
        refine ⟨h, fun q => ?_⟩
        have : j = n := by omega
        subst this
        rw [hw] at h
        cases h
        exact hc q.2
    · rename_i hno
      refine ⟨h, fun q => ?_⟩
      have : j = n := by omega
      subst this
      exact hno v h
theorem zst1_ok {ls' : Array Slot} {nL i : Nat} {lv : List (Option Value)} {v : Value} (hlen : lv.length = nL) (h : lv_has ls' nL ((i, v) :: (zas lv).filter (fun q => !(q.1 == i) && !(q.1 + 1 == i && q.2.category == 2)))) : zL ls' nL (zst1 lv i v) := by
  refine ⟨h.1, h.2.1, by simp [zst1, zkill_len, hlen], fun j w hj => ?_⟩
  by_cases hji : j = i
  · subst hji
    unfold zst1 at hj
    have hl : j < (zkill lv j).length := by
      have := (List.getElem?_eq_some_iff.mp hj).1
      simpa using this
    rw [List.getElem?_set_self hl] at hj
    cases hj
    exact h.2.2 (j, v) List.mem_cons_self
  · unfold zst1 at hj
    rw [List.getElem?_set_ne (Ne.symm hji)] at hj
    obtain ⟨h1, h2⟩ := zkill_at hj hji
    refine h.2.2 (j, w) (List.mem_cons_of_mem _ (List.mem_filter.mpr ⟨zas_mem.mpr h1, ?_⟩))
    simp only [Bool.and_eq_true, Bool.not_eq_true', beq_eq_false_iff_ne, Bool.and_eq_false_iff]
    refine ⟨hji, ?_⟩
    by_cases q : j + 1 = i
    · exact Or.inr (fun z => h2 ⟨q, z⟩)
    · exact Or.inl q
theorem zst2_ok {ls' : Array Slot} {nL i : Nat} {lv : List (Option Value)} {v : Value} (hlen : lv.length = nL) (h : lv_has ls' nL ((i, v) :: (zas lv).filter (fun q => !(q.1 == i) && (!(q.1 == i + 1) && !(q.1 + 1 == i && q.2.category == 2))))) : zL ls' nL (zst2 lv i v) := by
  refine ⟨h.1, h.2.1, by simp [zst2, zkill_len, hlen], fun j w hj => ?_⟩
  unfold zst2 at hj
  by_cases hj1 : j = i + 1
  · subst hj1
    have hl : i + 1 < ((zkill lv i).set i (some v)).length := by
      have := (List.getElem?_eq_some_iff.mp hj).1
      simpa using this
    rw [List.getElem?_set_self hl] at hj
    cases hj
  rw [List.getElem?_set_ne (Ne.symm hj1)] at hj
  by_cases hji : j = i
  · subst hji
    have hl : j < (zkill lv j).length := by
      have := (List.getElem?_eq_some_iff.mp hj).1
      simpa using this
    rw [List.getElem?_set_self hl] at hj
    cases hj
    exact h.2.2 (j, v) List.mem_cons_self
  · rw [List.getElem?_set_ne (Ne.symm hji)] at hj
    obtain ⟨h1, h2⟩ := zkill_at hj hji
    refine h.2.2 (j, w) (List.mem_cons_of_mem _ (List.mem_filter.mpr ⟨zas_mem.mpr h1, ?_⟩))
    simp only [Bool.and_eq_true, Bool.not_eq_true', beq_eq_false_iff_ne, Bool.and_eq_false_iff]
    refine ⟨hji, hj1, ?_⟩
    by_cases q : j + 1 = i
    · exact Or.inr (fun z => h2 ⟨q, z⟩)
    · exact Or.inl q
/-! the judgement -/
abbrev zC : Type := Program × Launch × Env × Room × State × MethodId × Array Value × List Frame × Method × Code
/-- facts of the tables and of what lies outside A: they stay -/
def zFok (F : State → Prop) (A : Nat → Prop) : Prop := (∀ (U : State) (g : JFrame) (mk : MethodId) (a : Array Value), F U → F (U.calling g mk a)) ∧ ∀ s U : State, s.WarmedH U.vm → s.heap.size ≤ U.heap.size → (∀ q : Nat, q < s.heap.size → ¬ A q → U.heap[q]? = s.heap[q]?) → F s → F U
def zCx (K : zC) (D : va_G) (cl : List vw_C) (A : Nat → Prop) (tys : List (ClassId × FieldType)) (F : State → Prop) (rm : Room) (cc : ByteArray) (own nm : String) (Ts : List Cond) (nL : Nat) (ret : Option FieldType) : Prop := match K with
  | (p, _, _, R, s, m, args, _, meth, c) => p.tables.exec = Jvm.exec ∧ c.code = cc ∧ c.maxLocals = nL ∧ s.vm.findClass own = some m.cls ∧ (∀ w ∈ Ts, w.before args s = true) ∧ meth.sig.returnType = ret ∧ meth.locks = false ∧ va_K D cl tys s ∧ (∀ q, s.heap.size ≤ q → A q) ∧ F s ∧ R = rm ∧ zFok F A ∧ meth.name = nm
def zJ (K : zC) (D : va_G) (cl : List vw_C) (A : Nat → Prop) (nL : Nat) (Q : State → Prop) (cells slots : Nat) (σ : zh) (pc : Nat) (lv : List (Option Value)) (st : List Value) : Prop := match K with
  | (p, l, e, R, s, m, args, below, meth, c) => ∀ (H : Heap) (locs : List Loc) (ls : Array Slot), zG D cl A σ H → va_S A s.heap H locs → zL ls nL lv → W p l e R s m args below meth c H locs cells slots Q (F0 m pc ls st)
def zQc (D : va_G) (cl : List vw_C) (A : Nat → Prop) (post : Option Value → zh → Prop) : Array Value → State → Outcome → State → Prop := fun _ st oc t => (∃ (r : Option Value) (σ' : zh), oc = .returned r ∧ post r σ' ∧ zG D cl A σ' t.heap) ∧ va_F A st t
def zQ (K : zC) (D : va_G) (cl : List vw_C) (A : Nat → Prop) (post : Option Value → zh → Prop) (mc ms : Nat) : State → Prop := match K with
  | (_, _, _, _, s, _, args, below, _, _) => MQ below (zQc D cl A post) args s mc ms A
def zPc (D : va_G) (cl : List vw_C) (A : Nat → Prop) (tys : List (ClassId × FieldType)) (F : State → Prop) (vals : List Value) (σ : zh) : Array Value → State → Prop := va_Pc vals (fun U => (∀ q, U.heap.size ≤ q → A q) ∧ va_K D cl tys U ∧ F U ∧ zG D cl A σ U.heap)
/-- a method's contract: from the map σ it answers r and leaves the map σ', with post r σ' -/
def zM (l : Launch) (D : va_G) (cl : List vw_C) (A : Nat → Prop) (tys : List (ClassId × FieldType)) (F : State → Prop) (y : MethodName) (ws : List Cond) (rm : Room) (vals : List Value) (σ : zh) (post : Option Value → zh → Prop) : Prop :=
  Met l y ws rm (zPc D cl A tys F vals σ) (zQc D cl A post) rm.cells rm.slots A
def zents (vals : List Value) : List (Option Value) := vals.flatMap fun v => if v.category = 2 then [some v, none] else [some v]
theorem zents_at : ∀ (vals : List Value) (i : Nat) (v : Value), (zents vals)[i]? = some (some v) → (lg_sl vals)[i]? = some (.val v)
  | [], i, v, h => by simp [zents] at h
  | w :: l, i, v, h => by
    have ih := zents_at l
    unfold zents lg_sl at *
    rw [List.flatMap_cons] at h ⊢
    by_cases hc : w.category = 2
    · simp only [hc, if_true] at h ⊢
      match i, h with
      | 0, h => simpa using h
      | 1, h => simp at h
      | j + 2, h => simpa using ih j v (by simpa using h)
    · simp only [hc, if_false] at h ⊢
      match i, h with
      | 0, h => simpa using h
      | j + 1, h => simpa using ih j v (by simpa using h)
theorem zents_len : ∀ vals : List Value, (zents vals).length = (lg_sl vals).length
  | [] => rfl
  | w :: l => by
    have ih := zents_len l
    unfold zents lg_sl at *
    rw [List.flatMap_cons, List.flatMap_cons, List.length_append, List.length_append, ih]
    by_cases hc : w.category = 2 <;> simp [hc]
def zent (vals : List Value) (nL : Nat) : List (Option Value) := zents vals ++ List.replicate (nL - (zents vals).length) none
theorem zent_ok (vals : List Value) {n : Nat} (h : (zents vals).length ≤ n) : zL ((lg_sl vals ++ List.replicate (n - (lg_sl vals).length) Slot.unset).toArray) n (zent vals n) := by
  have h1 := lv_entry vals (n := n) (by rw [← zents_len]; exact h)
  refine ⟨h1.1, h1.2.1, by simp [zent]; omega, fun i v hi => ?_⟩
  unfold zent at hi
  by_cases hl : i < (zents vals).length
  · rw [List.getElem?_append_left hl] at hi
    have h2 := zents_at vals i v hi
    simp only [List.getElem?_toArray]
    rw [List.getElem?_append_left (by rw [← zents_len]; exact hl)]
    exact h2
  · rw [List.getElem?_append_right (by omega)] at hi
    rw [List.getElem?_replicate] at hi
    split at hi <;> simp at hi

section ZR
variable {K : zC} {D : va_G} {cl : List vw_C} {A : Nat → Prop} {tys : List (ClassId × FieldType)} {F : State → Prop} {rm : Room} {cc : ByteArray} {own nm : String} {Ts : List Cond} {nL : Nat} {ret : Option FieldType} {Q : State → Prop} {cells slots pc : Nat} {σ : zh} {lv : List (Option Value)} {st : List Value}
theorem zMet {l : Launch} {y : MethodName} {ws ws' : List Cond} {vals : List Value} {post : Option Value → zh → Prop} (hF : zFok F A) (hy : plainName y.cls = true) (hw : ws = Cond.code y cc nL ret :: ws') (hn : (zents vals).length ≤ nL)
    (body : ∀ K : zC, K.2.1 = l → zCx K D cl A tys F rm cc y.cls y.name ws nL ret → zJ K D cl A nL (zQ K D cl A post rm.cells rm.slots) 0 0 σ 0 (zent vals nL) []) : zM l D cl A tys F y ws rm vals σ post := by
  refine Met.ofW (cc := cc) (maxL := nL) (ret := ret) hy hw ?_
  intro p e s m args below meth c s₁ B hml hv
  obtain ⟨rfl, hA, hK, hFs, hG⟩ := hv
  have hown : s.vm.findClass y.cls = some m.cls := findClass_of_methodNamed B.named
  have k := body (p, l, e, (headSpec ws rm).room, s, m, vals.toArray, below, meth, c) rfl ⟨B.exec, B.bytes, hml, hown, atoms_spec (ws := ws) B.pre, B.returns, B.notSynchronized, hK, hA, hFs, rfl, hF, (name_of_methodNamed B.named B.method).1⟩
  rw [lg_entry_eq]
  exact k s.heap [] _ hG va_S.rf (zent_ok vals hn)
theorem z_widen {k n : Nat} (h1 : cells ≤ k) (h2 : slots ≤ n) (kk : zJ K D cl A nL Q (k) (n) (σ) (pc) (lv) (st)) : zJ K D cl A nL Q (cells) (slots) (σ) (pc) (lv) (st) := by
  obtain ⟨p, l, e, R, s, m, args, below, meth, c⟩ := K
  intro H locs ls hG hS hL
  exact W.widen h1 h2 (kk H locs ls hG hS hL)
theorem z_eq {lv' : List (Option Value)} {st' : List Value} {σ' : zh} (h1 : lv = lv') (h2 : st = st') (h3 : σ = σ') (kk : zJ K D cl A nL Q (cells) (slots) (σ') (pc) (lv') (st')) : zJ K D cl A nL Q (cells) (slots) (σ) (pc) (lv) (st) := by
  subst h1; subst h2; subst h3; exact kk
theorem z_iret {post : Option Value → zh → Prop} {mc ms : Nat} {a : Int} (C : zCx K D cl A tys F rm cc own nm Ts nL (some .int)) (hd : decode cc pc = .ok (.ireturn, 1)) (h1 : cells ≤ mc) (h2 : slots ≤ ms) (hp : post (some (iv a)) σ) : zJ K D cl A nL (zQ K D cl A post mc ms) (cells) (slots) (σ) (pc) (lv) ([iv a]) := by
  obtain ⟨p, l, e, R, s, m, args, below, meth, c⟩ := K
  intro H locs ls hG hS hL
  refine W.widen h1 h2 ?_
  have hlocks : meth.locks = false := C.2.2.2.2.2.2.1
  exact W.iret (v := Int32.ofInt a) C.1 C.2.1 C.2.2.2.2.2.1 (fun t ht hW => ⟨⟨_, σ, rfl, hp, by rw [ht]; exact hG⟩, hS.F ht⟩) hS.2.2 hd
theorem z_zret {post : Option Value → zh → Prop} {mc ms : Nat} {a : Int} (C : zCx K D cl A tys F rm cc own nm Ts nL (some .boolean)) (hd : decode cc pc = .ok (.ireturn, 1)) (h1 : cells ≤ mc) (h2 : slots ≤ ms) (ha : a = 0 ∨ a = 1) (hp : post (some (iv a)) σ) : zJ K D cl A nL (zQ K D cl A post mc ms) (cells) (slots) (σ) (pc) (lv) ([iv a]) := by
  obtain ⟨p, l, e, R, s, m, args, below, meth, c⟩ := K
  intro H locs ls hG hS hL
  refine W.widen h1 h2 ?_
  have hlocks : meth.locks = false := C.2.2.2.2.2.2.1
  exact W.zret (v := Int32.ofInt a) C.1 C.2.1 C.2.2.2.2.2.1 (znarz ha) (fun t ht hW => ⟨⟨_, σ, rfl, hp, by rw [ht]; exact hG⟩, hS.F ht⟩) hS.2.2 hd
theorem z_lret {post : Option Value → zh → Prop} {mc ms : Nat} {a : Int} (C : zCx K D cl A tys F rm cc own nm Ts nL (some .long)) (hd : decode cc pc = .ok (.lreturn, 1)) (h1 : cells ≤ mc) (h2 : slots ≤ ms) (hp : post (some (jv a)) σ) : zJ K D cl A nL (zQ K D cl A post mc ms) (cells) (slots) (σ) (pc) (lv) ([jv a]) := by
  obtain ⟨p, l, e, R, s, m, args, below, meth, c⟩ := K
  intro H locs ls hG hS hL
  refine W.widen h1 h2 ?_
  have hlocks : meth.locks = false := C.2.2.2.2.2.2.1
  exact W.lret (v := Int64.ofInt a) C.1 C.2.1 C.2.2.2.2.2.1 (fun t ht hW => ⟨⟨_, σ, rfl, hp, by rw [ht]; exact hG⟩, hS.F ht⟩) hS.2.2 hd
theorem z_vret {post : Option Value → zh → Prop} {mc ms : Nat} (C : zCx K D cl A tys F rm cc own nm Ts nL none) (hd : decode cc pc = .ok (.return_, 1)) (h1 : cells ≤ mc) (h2 : slots ≤ ms) (hp : post none σ) : zJ K D cl A nL (zQ K D cl A post mc ms) (cells) (slots) (σ) (pc) (lv) ([]) := by
  obtain ⟨p, l, e, R, s, m, args, below, meth, c⟩ := K
  intro H locs ls hG hS hL
  refine W.widen h1 h2 ?_
  have hlocks : meth.locks = false := C.2.2.2.2.2.2.1
  exact W.vret C.1 C.2.1 C.2.2.2.2.2.1 (fun t ht hW => ⟨⟨_, σ, rfl, hp, by rw [ht]; exact hG⟩, hS.F ht⟩) hS.2.2 hd
theorem z_aret {post : Option Value → zh → Prop} {mc ms : Nat} {r : Option Nat} {cn : String} (C : zCx K D cl A tys F rm cc own nm Ts nL (some (.object cn))) (hd : decode cc pc = .ok (.areturn, 1)) (h1 : cells ≤ mc) (h2 : slots ≤ ms) (hp : post (some (va_rf r)) σ) : zJ K D cl A nL (zQ K D cl A post mc ms) (cells) (slots) (σ) (pc) (lv) ([va_rf r]) := by
  obtain ⟨p, l, e, R, s, m, args, below, meth, c⟩ := K
  intro H locs ls hG hS hL
  refine W.widen h1 h2 ?_
  have hlocks : meth.locks = false := C.2.2.2.2.2.2.1
  exact W.aret (v := va_rf r) C.1 C.2.1 C.2.2.2.2.2.1 (Or.inl ⟨_, rfl⟩) (va_rf_or r) (fun t ht hW => ⟨⟨_, σ, rfl, hp, by rw [ht]; exact hG⟩, hS.F ht⟩) hS.2.2 hd
theorem z_iconst (C : zCx K D cl A tys F rm cc own nm Ts nL ret) {a : Int} (hd : decode cc pc = .ok (.iconst a, 1)) (k : zJ K D cl A nL Q (cells) (slots) (σ) (pc + 1) (lv) (iv a :: st)) : zJ K D cl A nL Q (cells) (slots) (σ) (pc) (lv) (st) := by
  obtain ⟨p, l, e, R, s, m, args, below, meth, c⟩ := K
  intro H locs ls hG hS hL
  exact lv_iconst C.1 C.2.1 hd rfl (k H locs ls hG hS hL)
theorem z_bipush (C : zCx K D cl A tys F rm cc own nm Ts nL ret) {a : Int} (hd : decode cc pc = .ok (.bipush a, 2)) (hv : (Int8.ofInt a).toInt32 = Int32.ofInt a) (k : zJ K D cl A nL Q (cells) (slots) (σ) (pc + 2) (lv) (iv a :: st)) : zJ K D cl A nL Q (cells) (slots) (σ) (pc) (lv) (st) := by
  obtain ⟨p, l, e, R, s, m, args, below, meth, c⟩ := K
  intro H locs ls hG hS hL
  exact lv_bipush C.1 C.2.1 hd hv (k H locs ls hG hS hL)
theorem z_sipush (C : zCx K D cl A tys F rm cc own nm Ts nL ret) {a : Int} (hd : decode cc pc = .ok (.sipush a, 3)) (hv : (Int16.ofInt a).toInt32 = Int32.ofInt a) (k : zJ K D cl A nL Q (cells) (slots) (σ) (pc + 3) (lv) (iv a :: st)) : zJ K D cl A nL Q (cells) (slots) (σ) (pc) (lv) (st) := by
  obtain ⟨p, l, e, R, s, m, args, below, meth, c⟩ := K
  intro H locs ls hG hS hL
  exact lv_sipush C.1 C.2.1 hd hv (k H locs ls hG hS hL)
theorem z_lconst (C : zCx K D cl A tys F rm cc own nm Ts nL ret) {n : Fin 2} (a : Int) (hd : decode cc pc = .ok (.lconst n, 1)) (hv : Int64.ofNat (n : Nat) = Int64.ofInt a) (k : zJ K D cl A nL Q (cells) (slots) (σ) (pc + 1) (lv) (jv a :: st)) : zJ K D cl A nL Q (cells) (slots) (σ) (pc) (lv) (st) := by
  obtain ⟨p, l, e, R, s, m, args, below, meth, c⟩ := K
  intro H locs ls hG hS hL
  exact lv_lconst C.1 C.2.1 hd hv (k H locs ls hG hS hL)
theorem z_ldc2 (C : zCx K D cl A tys F rm cc own nm Ts nL ret) {index : Nat} (a : Int) (hw : Cond.constantLong own index (Int64.ofInt a) ∈ Ts) (hd : decode cc pc = .ok (.ldc2_w index, 3)) (k : zJ K D cl A nL Q (cells) (slots) (σ) (pc + 3) (lv) (jv a :: st)) : zJ K D cl A nL Q (cells) (slots) (σ) (pc) (lv) (st) := by
  obtain ⟨p, l, e, R, s, m, args, below, meth, c⟩ := K
  intro H locs ls hG hS hL
  exact lv_ldc2 C.1 C.2.1 C.2.2.2.1 (C.2.2.2.2.1 _ hw) hd (k H locs ls hG hS hL)
theorem z_ldc (C : zCx K D cl A tys F rm cc own nm Ts nL ret) {index : Nat} (a : Int) (hw : Cond.constant own index (Int32.ofInt a) ∈ Ts) (hd : decode cc pc = .ok (.ldc index, 2)) (k : zJ K D cl A nL Q (cells) (slots) (σ) (pc + 2) (lv) (iv a :: st)) : zJ K D cl A nL Q (cells) (slots) (σ) (pc) (lv) (st) := by
  obtain ⟨p, l, e, R, s, m, args, below, meth, c⟩ := K
  intro H locs ls hG hS hL
  exact lv_ldc C.1 C.2.1 C.2.2.2.1 (C.2.2.2.2.1 _ hw) hd (k H locs ls hG hS hL)
theorem z_null (C : zCx K D cl A tys F rm cc own nm Ts nL ret) (hd : decode cc pc = .ok (.aconst_null, 1)) (k : zJ K D cl A nL Q (cells) (slots) (σ) (pc + 1) (lv) (.null :: st)) : zJ K D cl A nL Q (cells) (slots) (σ) (pc) (lv) (st) := by
  obtain ⟨p, l, e, R, s, m, args, below, meth, c⟩ := K
  intro H locs ls hG hS hL
  exact lv_null C.1 C.2.1 hd (k H locs ls hG hS hL)
theorem z_iload_n (C : zCx K D cl A tys F rm cc own nm Ts nL ret) {k : Fin 4} {a : Int} (hd : decode cc pc = .ok (.iload_n k, 1)) (hl : lv[(k : Nat)]? = some (some (iv a))) (kk : zJ K D cl A nL Q (cells) (slots) (σ) (pc + 1) (lv) (iv a :: st)) : zJ K D cl A nL Q (cells) (slots) (σ) (pc) (lv) (st) := by
  obtain ⟨p, l, e, R, s, m, args, below, meth, c⟩ := K
  intro H locs ls hG hS hL
  exact lv_iload_n C.1 C.2.1 hd rfl (hL.2.2.2 _ _ hl) (kk H locs ls hG hS hL)
theorem z_iload (C : zCx K D cl A tys F rm cc own nm Ts nL ret) {i : Nat} {a : Int} (hd : decode cc pc = .ok (.iload i, 2)) (hl : lv[i]? = some (some (iv a))) (kk : zJ K D cl A nL Q (cells) (slots) (σ) (pc + 2) (lv) (iv a :: st)) : zJ K D cl A nL Q (cells) (slots) (σ) (pc) (lv) (st) := by
  obtain ⟨p, l, e, R, s, m, args, below, meth, c⟩ := K
  intro H locs ls hG hS hL
  exact lv_iload C.1 C.2.1 hd (hL.2.2.2 _ _ hl) (kk H locs ls hG hS hL)
theorem z_lload_n (C : zCx K D cl A tys F rm cc own nm Ts nL ret) {k : Fin 4} {a : Int} (hd : decode cc pc = .ok (.lload_n k, 1)) (hl : lv[(k : Nat)]? = some (some (jv a))) (kk : zJ K D cl A nL Q (cells) (slots) (σ) (pc + 1) (lv) (jv a :: st)) : zJ K D cl A nL Q (cells) (slots) (σ) (pc) (lv) (st) := by
  obtain ⟨p, l, e, R, s, m, args, below, meth, c⟩ := K
  intro H locs ls hG hS hL
  exact lv_lload_n C.1 C.2.1 hd rfl (hL.2.2.2 _ _ hl) (kk H locs ls hG hS hL)
theorem z_lload (C : zCx K D cl A tys F rm cc own nm Ts nL ret) {i : Nat} {a : Int} (hd : decode cc pc = .ok (.lload i, 2)) (hl : lv[i]? = some (some (jv a))) (kk : zJ K D cl A nL Q (cells) (slots) (σ) (pc + 2) (lv) (jv a :: st)) : zJ K D cl A nL Q (cells) (slots) (σ) (pc) (lv) (st) := by
  obtain ⟨p, l, e, R, s, m, args, below, meth, c⟩ := K
  intro H locs ls hG hS hL
  exact lv_lload C.1 C.2.1 hd (hL.2.2.2 _ _ hl) (kk H locs ls hG hS hL)
theorem z_aload_n (C : zCx K D cl A tys F rm cc own nm Ts nL ret) {k : Fin 4} {x : Nat} (hd : decode cc pc = .ok (.aload_n k, 1)) (hl : lv[(k : Nat)]? = some (some (.ref x))) (kk : zJ K D cl A nL Q (cells) (slots) (σ) (pc + 1) (lv) (.ref x :: st)) : zJ K D cl A nL Q (cells) (slots) (σ) (pc) (lv) (st) := by
  obtain ⟨p, l, e, R, s, m, args, below, meth, c⟩ := K
  intro H locs ls hG hS hL
  exact lv_aload_n C.1 C.2.1 hd rfl (hL.2.2.2 _ _ hl) (kk H locs ls hG hS hL)
theorem z_aload (C : zCx K D cl A tys F rm cc own nm Ts nL ret) {i : Nat} {x : Nat} (hd : decode cc pc = .ok (.aload i, 2)) (hl : lv[i]? = some (some (.ref x))) (kk : zJ K D cl A nL Q (cells) (slots) (σ) (pc + 2) (lv) (.ref x :: st)) : zJ K D cl A nL Q (cells) (slots) (σ) (pc) (lv) (st) := by
  obtain ⟨p, l, e, R, s, m, args, below, meth, c⟩ := K
  intro H locs ls hG hS hL
  exact lv_aload C.1 C.2.1 hd (hL.2.2.2 _ _ hl) (kk H locs ls hG hS hL)
theorem z_aload_nN (C : zCx K D cl A tys F rm cc own nm Ts nL ret) {k : Fin 4} (hd : decode cc pc = .ok (.aload_n k, 1)) (hl : lv[(k : Nat)]? = some (some .null)) (kk : zJ K D cl A nL Q (cells) (slots) (σ) (pc + 1) (lv) (.null :: st)) : zJ K D cl A nL Q (cells) (slots) (σ) (pc) (lv) (st) := by
  obtain ⟨p, l, e, R, s, m, args, below, meth, c⟩ := K
  intro H locs ls hG hS hL
  exact lv_aload_nN C.1 C.2.1 hd rfl (hL.2.2.2 _ _ hl) (kk H locs ls hG hS hL)
theorem z_aloadN (C : zCx K D cl A tys F rm cc own nm Ts nL ret) {i : Nat} (hd : decode cc pc = .ok (.aload i, 2)) (hl : lv[i]? = some (some .null)) (kk : zJ K D cl A nL Q (cells) (slots) (σ) (pc + 2) (lv) (.null :: st)) : zJ K D cl A nL Q (cells) (slots) (σ) (pc) (lv) (st) := by
  obtain ⟨p, l, e, R, s, m, args, below, meth, c⟩ := K
  intro H locs ls hG hS hL
  exact lv_aloadN C.1 C.2.1 hd (hL.2.2.2 _ _ hl) (kk H locs ls hG hS hL)
theorem z_istore_n (C : zCx K D cl A tys F rm cc own nm Ts nL ret) {k : Fin 4} {a : Int} (hd : decode cc pc = .ok (.istore_n k, 1)) (hn : (k : Nat) < nL) (kk : zJ K D cl A nL Q (cells) (slots) (σ) (pc + 1) (zst1 lv k (iv a)) (st)) : zJ K D cl A nL Q (cells) (slots) (σ) (pc) (lv) (iv a :: st) := by
  obtain ⟨p, l, e, R, s, m, args, below, meth, c⟩ := K
  intro H locs ls hG hS hL
  exact lv_istore_n C.1 C.2.1 hd rfl hL.has hn rfl (fun ls hl => kk H locs ls hG hS (zst1_ok hL.2.2.1 hl))
theorem z_istore (C : zCx K D cl A tys F rm cc own nm Ts nL ret) {i : Nat} {a : Int} (hd : decode cc pc = .ok (.istore i, 2)) (hn : i < nL) (kk : zJ K D cl A nL Q (cells) (slots) (σ) (pc + 2) (zst1 lv i (iv a)) (st)) : zJ K D cl A nL Q (cells) (slots) (σ) (pc) (lv) (iv a :: st) := by
  obtain ⟨p, l, e, R, s, m, args, below, meth, c⟩ := K
  intro H locs ls hG hS hL
  exact lv_istore C.1 C.2.1 hd hL.has hn rfl (fun ls hl => kk H locs ls hG hS (zst1_ok hL.2.2.1 hl))
theorem z_lstore_n (C : zCx K D cl A tys F rm cc own nm Ts nL ret) {k : Fin 4} {a : Int} (hd : decode cc pc = .ok (.lstore_n k, 1)) (hn : (k : Nat) + 1 < nL) (kk : zJ K D cl A nL Q (cells) (slots) (σ) (pc + 1) (zst2 lv k (jv a)) (st)) : zJ K D cl A nL Q (cells) (slots) (σ) (pc) (lv) (jv a :: st) := by
  obtain ⟨p, l, e, R, s, m, args, below, meth, c⟩ := K
  intro H locs ls hG hS hL
  exact lv_lstore_n C.1 C.2.1 hd rfl hL.has hn rfl (fun ls hl => kk H locs ls hG hS (zst2_ok hL.2.2.1 hl))
theorem z_lstore (C : zCx K D cl A tys F rm cc own nm Ts nL ret) {i : Nat} {a : Int} (hd : decode cc pc = .ok (.lstore i, 2)) (hn : i + 1 < nL) (kk : zJ K D cl A nL Q (cells) (slots) (σ) (pc + 2) (zst2 lv i (jv a)) (st)) : zJ K D cl A nL Q (cells) (slots) (σ) (pc) (lv) (jv a :: st) := by
  obtain ⟨p, l, e, R, s, m, args, below, meth, c⟩ := K
  intro H locs ls hG hS hL
  exact lv_lstore C.1 C.2.1 hd hL.has hn rfl (fun ls hl => kk H locs ls hG hS (zst2_ok hL.2.2.1 hl))
theorem z_astore_n (C : zCx K D cl A tys F rm cc own nm Ts nL ret) {k : Fin 4} {x : Nat} (hd : decode cc pc = .ok (.astore_n k, 1)) (hn : (k : Nat) < nL) (kk : zJ K D cl A nL Q (cells) (slots) (σ) (pc + 1) (zst1 lv k (.ref x)) (st)) : zJ K D cl A nL Q (cells) (slots) (σ) (pc) (lv) (.ref x :: st) := by
  obtain ⟨p, l, e, R, s, m, args, below, meth, c⟩ := K
  intro H locs ls hG hS hL
  exact lv_astore_n C.1 C.2.1 hd rfl hL.has hn rfl (fun ls hl => kk H locs ls hG hS (zst1_ok hL.2.2.1 hl))
theorem z_astore (C : zCx K D cl A tys F rm cc own nm Ts nL ret) {i : Nat} {x : Nat} (hd : decode cc pc = .ok (.astore i, 2)) (hn : i < nL) (kk : zJ K D cl A nL Q (cells) (slots) (σ) (pc + 2) (zst1 lv i (.ref x)) (st)) : zJ K D cl A nL Q (cells) (slots) (σ) (pc) (lv) (.ref x :: st) := by
  obtain ⟨p, l, e, R, s, m, args, below, meth, c⟩ := K
  intro H locs ls hG hS hL
  exact lv_astore C.1 C.2.1 hd hL.has hn rfl (fun ls hl => kk H locs ls hG hS (zst1_ok hL.2.2.1 hl))
theorem z_astore_nN (C : zCx K D cl A tys F rm cc own nm Ts nL ret) {k : Fin 4} (hd : decode cc pc = .ok (.astore_n k, 1)) (hn : (k : Nat) < nL) (kk : zJ K D cl A nL Q (cells) (slots) (σ) (pc + 1) (zst1 lv k .null) (st)) : zJ K D cl A nL Q (cells) (slots) (σ) (pc) (lv) (.null :: st) := by
  obtain ⟨p, l, e, R, s, m, args, below, meth, c⟩ := K
  intro H locs ls hG hS hL
  exact lv_astore_nN C.1 C.2.1 hd rfl hL.has hn rfl (fun ls hl => kk H locs ls hG hS (zst1_ok hL.2.2.1 hl))
theorem z_astoreN (C : zCx K D cl A tys F rm cc own nm Ts nL ret) {i : Nat} (hd : decode cc pc = .ok (.astore i, 2)) (hn : i < nL) (kk : zJ K D cl A nL Q (cells) (slots) (σ) (pc + 2) (zst1 lv i .null) (st)) : zJ K D cl A nL Q (cells) (slots) (σ) (pc) (lv) (.null :: st) := by
  obtain ⟨p, l, e, R, s, m, args, below, meth, c⟩ := K
  intro H locs ls hG hS hL
  exact lv_astoreN C.1 C.2.1 hd hL.has hn rfl (fun ls hl => kk H locs ls hG hS (zst1_ok hL.2.2.1 hl))
theorem z_iinc (C : zCx K D cl A tys F rm cc own nm Ts nL ret) {i : Nat} {n a : Int} (hd : decode cc pc = .ok (.iinc i n, 3)) (hl : lv[i]? = some (some (iv a))) (hn : i < nL) (kk : zJ K D cl A nL Q (cells) (slots) (σ) (pc + 3) (zst1 lv i (iv (a + n))) (st)) : zJ K D cl A nL Q (cells) (slots) (σ) (pc) (lv) (st) := by
  obtain ⟨p, l, e, R, s, m, args, below, meth, c⟩ := K
  intro H locs ls hG hS hL
  obtain ⟨j, hj⟩ := List.getElem?_of_mem (zas_mem.mpr hl)
  exact lv_iinc (v := Int32.ofInt (a + n)) C.1 C.2.1 hd hL.has hj (Int32.ofInt_add a n).symm hn rfl (fun ls hl => kk H locs ls hG hS (zst1_ok hL.2.2.1 hl))
theorem z_iadd (C : zCx K D cl A tys F rm cc own nm Ts nL ret) {a b : Int} (hd : decode cc pc = .ok (.iadd, 1)) (k : zJ K D cl A nL Q (cells) (slots) (σ) (pc + 1) (lv) (iv (a + b) :: st)) : zJ K D cl A nL Q (cells) (slots) (σ) (pc) (lv) (iv b :: iv a :: st) := by
  obtain ⟨p, l, e, R, s, m, args, below, meth, c⟩ := K
  intro H locs ls hG hS hL
  have k := k H locs ls hG hS hL
  rw [show iv (a + b) = .int (Int32.ofInt a + Int32.ofInt b) from congrArg Value.int (Int32.ofInt_add a b)] at k
  exact lv_iadd C.1 C.2.1 hd k
theorem z_isub (C : zCx K D cl A tys F rm cc own nm Ts nL ret) {a b : Int} (hd : decode cc pc = .ok (.isub, 1)) (k : zJ K D cl A nL Q (cells) (slots) (σ) (pc + 1) (lv) (iv (a - b) :: st)) : zJ K D cl A nL Q (cells) (slots) (σ) (pc) (lv) (iv b :: iv a :: st) := by
  obtain ⟨p, l, e, R, s, m, args, below, meth, c⟩ := K
  intro H locs ls hG hS hL
  have k := k H locs ls hG hS hL
  rw [show iv (a - b) = .int (Int32.ofInt a - Int32.ofInt b) from congrArg Value.int (Int32.ofInt_sub a b)] at k
  exact lv_isub C.1 C.2.1 hd k
theorem z_imul (C : zCx K D cl A tys F rm cc own nm Ts nL ret) {a b : Int} (hd : decode cc pc = .ok (.imul, 1)) (k : zJ K D cl A nL Q (cells) (slots) (σ) (pc + 1) (lv) (iv (a * b) :: st)) : zJ K D cl A nL Q (cells) (slots) (σ) (pc) (lv) (iv b :: iv a :: st) := by
  obtain ⟨p, l, e, R, s, m, args, below, meth, c⟩ := K
  intro H locs ls hG hS hL
  have k := k H locs ls hG hS hL
  rw [show iv (a * b) = .int (Int32.ofInt a * Int32.ofInt b) from congrArg Value.int (Int32.ofInt_mul a b)] at k
  exact lv_imul C.1 C.2.1 hd k
theorem z_ladd (C : zCx K D cl A tys F rm cc own nm Ts nL ret) {a b : Int} (hd : decode cc pc = .ok (.ladd, 1)) (k : zJ K D cl A nL Q (cells) (slots) (σ) (pc + 1) (lv) (jv (a + b) :: st)) : zJ K D cl A nL Q (cells) (slots) (σ) (pc) (lv) (jv b :: jv a :: st) := by
  obtain ⟨p, l, e, R, s, m, args, below, meth, c⟩ := K
  intro H locs ls hG hS hL
  have k := k H locs ls hG hS hL
  rw [show jv (a + b) = .long (Int64.ofInt a + Int64.ofInt b) from congrArg Value.long (Int64.ofInt_add a b)] at k
  exact lv_ladd C.1 C.2.1 hd k
theorem z_lsub (C : zCx K D cl A tys F rm cc own nm Ts nL ret) {a b : Int} (hd : decode cc pc = .ok (.lsub, 1)) (k : zJ K D cl A nL Q (cells) (slots) (σ) (pc + 1) (lv) (jv (a - b) :: st)) : zJ K D cl A nL Q (cells) (slots) (σ) (pc) (lv) (jv b :: jv a :: st) := by
  obtain ⟨p, l, e, R, s, m, args, below, meth, c⟩ := K
  intro H locs ls hG hS hL
  have k := k H locs ls hG hS hL
  rw [show jv (a - b) = .long (Int64.ofInt a - Int64.ofInt b) from congrArg Value.long (Int64.ofInt_sub a b)] at k
  exact lv_lsub C.1 C.2.1 hd k
theorem z_lmul (C : zCx K D cl A tys F rm cc own nm Ts nL ret) {a b : Int} (hd : decode cc pc = .ok (.lmul, 1)) (k : zJ K D cl A nL Q (cells) (slots) (σ) (pc + 1) (lv) (jv (a * b) :: st)) : zJ K D cl A nL Q (cells) (slots) (σ) (pc) (lv) (jv b :: jv a :: st) := by
  obtain ⟨p, l, e, R, s, m, args, below, meth, c⟩ := K
  intro H locs ls hG hS hL
  have k := k H locs ls hG hS hL
  rw [show jv (a * b) = .long (Int64.ofInt a * Int64.ofInt b) from congrArg Value.long (Int64.ofInt_mul a b)] at k
  exact lv_lmul C.1 C.2.1 hd k
theorem z_iand (C : zCx K D cl A tys F rm cc own nm Ts nL ret) {x y : Int32} (hd : decode cc pc = .ok (.iand, 1)) (k : zJ K D cl A nL Q (cells) (slots) (σ) (pc + 1) (lv) (.int (x &&& y) :: st)) : zJ K D cl A nL Q (cells) (slots) (σ) (pc) (lv) (.int y :: .int x :: st) := by
  obtain ⟨p, l, e, R, s, m, args, below, meth, c⟩ := K
  intro H locs ls hG hS hL
  exact lv_iand C.1 C.2.1 hd (k H locs ls hG hS hL)
theorem z_ior (C : zCx K D cl A tys F rm cc own nm Ts nL ret) {x y : Int32} (hd : decode cc pc = .ok (.ior, 1)) (k : zJ K D cl A nL Q (cells) (slots) (σ) (pc + 1) (lv) (.int (x ||| y) :: st)) : zJ K D cl A nL Q (cells) (slots) (σ) (pc) (lv) (.int y :: .int x :: st) := by
  obtain ⟨p, l, e, R, s, m, args, below, meth, c⟩ := K
  intro H locs ls hG hS hL
  exact lv_ior C.1 C.2.1 hd (k H locs ls hG hS hL)
theorem z_ixor (C : zCx K D cl A tys F rm cc own nm Ts nL ret) {x y : Int32} (hd : decode cc pc = .ok (.ixor, 1)) (k : zJ K D cl A nL Q (cells) (slots) (σ) (pc + 1) (lv) (.int (x ^^^ y) :: st)) : zJ K D cl A nL Q (cells) (slots) (σ) (pc) (lv) (.int y :: .int x :: st) := by
  obtain ⟨p, l, e, R, s, m, args, below, meth, c⟩ := K
  intro H locs ls hG hS hL
  exact lv_ixor C.1 C.2.1 hd (k H locs ls hG hS hL)
theorem z_ishl (C : zCx K D cl A tys F rm cc own nm Ts nL ret) {x y : Int32} (hd : decode cc pc = .ok (.ishl, 1)) (k : zJ K D cl A nL Q (cells) (slots) (σ) (pc + 1) (lv) (.int (x <<< (y &&& 31)) :: st)) : zJ K D cl A nL Q (cells) (slots) (σ) (pc) (lv) (.int y :: .int x :: st) := by
  obtain ⟨p, l, e, R, s, m, args, below, meth, c⟩ := K
  intro H locs ls hG hS hL
  exact lv_ishl C.1 C.2.1 hd (k H locs ls hG hS hL)
theorem z_ishr (C : zCx K D cl A tys F rm cc own nm Ts nL ret) {x y : Int32} (hd : decode cc pc = .ok (.ishr, 1)) (k : zJ K D cl A nL Q (cells) (slots) (σ) (pc + 1) (lv) (.int (x >>> (y &&& 31)) :: st)) : zJ K D cl A nL Q (cells) (slots) (σ) (pc) (lv) (.int y :: .int x :: st) := by
  obtain ⟨p, l, e, R, s, m, args, below, meth, c⟩ := K
  intro H locs ls hG hS hL
  exact lv_ishr C.1 C.2.1 hd (k H locs ls hG hS hL)
theorem z_land (C : zCx K D cl A tys F rm cc own nm Ts nL ret) {x y : Int64} (hd : decode cc pc = .ok (.land, 1)) (k : zJ K D cl A nL Q (cells) (slots) (σ) (pc + 1) (lv) (.long (x &&& y) :: st)) : zJ K D cl A nL Q (cells) (slots) (σ) (pc) (lv) (.long y :: .long x :: st) := by
  obtain ⟨p, l, e, R, s, m, args, below, meth, c⟩ := K
  intro H locs ls hG hS hL
  exact lv_land C.1 C.2.1 hd (k H locs ls hG hS hL)
theorem z_lor (C : zCx K D cl A tys F rm cc own nm Ts nL ret) {x y : Int64} (hd : decode cc pc = .ok (.lor, 1)) (k : zJ K D cl A nL Q (cells) (slots) (σ) (pc + 1) (lv) (.long (x ||| y) :: st)) : zJ K D cl A nL Q (cells) (slots) (σ) (pc) (lv) (.long y :: .long x :: st) := by
  obtain ⟨p, l, e, R, s, m, args, below, meth, c⟩ := K
  intro H locs ls hG hS hL
  exact lv_lor C.1 C.2.1 hd (k H locs ls hG hS hL)
theorem z_lxor (C : zCx K D cl A tys F rm cc own nm Ts nL ret) {x y : Int64} (hd : decode cc pc = .ok (.lxor, 1)) (k : zJ K D cl A nL Q (cells) (slots) (σ) (pc + 1) (lv) (.long (x ^^^ y) :: st)) : zJ K D cl A nL Q (cells) (slots) (σ) (pc) (lv) (.long y :: .long x :: st) := by
  obtain ⟨p, l, e, R, s, m, args, below, meth, c⟩ := K
  intro H locs ls hG hS hL
  exact lv_lxor C.1 C.2.1 hd (k H locs ls hG hS hL)
theorem z_lshl (C : zCx K D cl A tys F rm cc own nm Ts nL ret) {x : Int64} {y : Int32} (hd : decode cc pc = .ok (.lshl, 1)) (k : zJ K D cl A nL Q (cells) (slots) (σ) (pc + 1) (lv) (.long (x <<< (y.toInt64 &&& 63)) :: st)) : zJ K D cl A nL Q (cells) (slots) (σ) (pc) (lv) (.int y :: .long x :: st) := by
  obtain ⟨p, l, e, R, s, m, args, below, meth, c⟩ := K
  intro H locs ls hG hS hL
  exact lv_lshl C.1 C.2.1 hd rfl (k H locs ls hG hS hL)
theorem z_lushr (C : zCx K D cl A tys F rm cc own nm Ts nL ret) {x : Int64} {y : Int32} (hd : decode cc pc = .ok (.lushr, 1)) (k : zJ K D cl A nL Q (cells) (slots) (σ) (pc + 1) (lv) (.long ((x.toUInt64 >>> (y.toInt64.toUInt64 &&& Int64.toUInt64 63)).toInt64) :: st)) : zJ K D cl A nL Q (cells) (slots) (σ) (pc) (lv) (.int y :: .long x :: st) := by
  obtain ⟨p, l, e, R, s, m, args, below, meth, c⟩ := K
  intro H locs ls hG hS hL
  exact lv_lushr C.1 C.2.1 hd rfl (k H locs ls hG hS hL)
theorem z_iushr (C : zCx K D cl A tys F rm cc own nm Ts nL ret) {x y : Int32} (hd : decode cc pc = .ok (.iushr, 1)) (k : zJ K D cl A nL Q (cells) (slots) (σ) (pc + 1) (lv) (.int ((x.toUInt32 >>> (y.toUInt32 &&& Int32.toUInt32 31)).toInt32) :: st)) : zJ K D cl A nL Q (cells) (slots) (σ) (pc) (lv) (.int y :: .int x :: st) := by
  obtain ⟨p, l, e, R, s, m, args, below, meth, c⟩ := K
  intro H locs ls hG hS hL
  exact lv_iushr C.1 C.2.1 hd rfl (k H locs ls hG hS hL)
theorem z_top {v w : Value} (h : v = w) (k : zJ K D cl A nL Q (cells) (slots) (σ) (pc) (lv) (w :: st)) : zJ K D cl A nL Q (cells) (slots) (σ) (pc) (lv) (v :: st) := by
  subst h; exact k
theorem z_top2 {v0 v w : Value} (h : v = w) (k : zJ K D cl A nL Q (cells) (slots) (σ) (pc) (lv) (v0 :: w :: st)) : zJ K D cl A nL Q (cells) (slots) (σ) (pc) (lv) (v0 :: v :: st) := by
  subst h; exact k
theorem z_i2l (C : zCx K D cl A tys F rm cc own nm Ts nL ret) {a : Int} (ra : -2147483648 ≤ a ∧ a ≤ 2147483647) (hd : decode cc pc = .ok (.i2l, 1)) (k : zJ K D cl A nL Q (cells) (slots) (σ) (pc + 1) (lv) (jv a :: st)) : zJ K D cl A nL Q (cells) (slots) (σ) (pc) (lv) (iv a :: st) := by
  obtain ⟨p, l, e, R, s, m, args, below, meth, c⟩ := K
  intro H locs ls hG hS hL
  refine lv_i2l (v := Int64.ofInt a) C.1 C.2.1 hd (Int64.toInt_inj.mp ?_) (k H locs ls hG hS hL)
  rw [Int32.toInt_toInt64, z32 ra, z64 (by omega)]
theorem z_l2i (C : zCx K D cl A tys F rm cc own nm Ts nL ret) {a : Int} (hd : decode cc pc = .ok (.l2i, 1)) (k : zJ K D cl A nL Q (cells) (slots) (σ) (pc + 1) (lv) (iv a :: st)) : zJ K D cl A nL Q (cells) (slots) (σ) (pc) (lv) (jv a :: st) := by
  obtain ⟨p, l, e, R, s, m, args, below, meth, c⟩ := K
  intro H locs ls hG hS hL
  exact lv_l2i C.1 C.2.1 hd Int64.toInt32_ofInt (k H locs ls hG hS hL)
theorem z_idiv (C : zCx K D cl A tys F rm cc own nm Ts nL ret) {a b : Int} (ra : 0 ≤ a ∧ a ≤ 2147483647) (rb : 0 < b ∧ b ≤ 2147483647) (hd : decode cc pc = .ok (.idiv, 1)) (k : zJ K D cl A nL Q (cells) (slots) (σ) (pc + 1) (lv) (iv (a / b) :: st)) : zJ K D cl A nL Q (cells) (slots) (σ) (pc) (lv) (iv b :: iv a :: st) := by
  obtain ⟨p, l, e, R, s, m, args, below, meth, c⟩ := K
  intro H locs ls hG hS hL
  have k := k H locs ls hG hS hL
  obtain ⟨x, rfl⟩ := Int.eq_ofNat_of_zero_le ra.1
  obtain ⟨y, rfl⟩ := Int.eq_ofNat_of_zero_le (Int.le_of_lt rb.1)
  have e1 : ∀ n : Nat, Int32.ofInt (n : Int) = nI n := fun n => rfl
  refine lv_idiv C.1 C.2.1 hd (fun q => ?_) ?_
  · rw [e1] at q; exact nI_ne0 (by omega) (by omega) q
  · rw [e1, e1, pk_div (by omega) (by omega) (by omega), ← e1]
    rw [show ((x / y : Nat) : Int) = (x : Int) / (y : Int) from by simp]
    exact k
theorem z_irem (C : zCx K D cl A tys F rm cc own nm Ts nL ret) {a b : Int} (ra : 0 ≤ a ∧ a ≤ 2147483647) (rb : 0 < b ∧ b ≤ 2147483647) (hd : decode cc pc = .ok (.irem, 1)) (k : zJ K D cl A nL Q (cells) (slots) (σ) (pc + 1) (lv) (iv (a % b) :: st)) : zJ K D cl A nL Q (cells) (slots) (σ) (pc) (lv) (iv b :: iv a :: st) := by
  obtain ⟨p, l, e, R, s, m, args, below, meth, c⟩ := K
  intro H locs ls hG hS hL
  have k := k H locs ls hG hS hL
  obtain ⟨x, rfl⟩ := Int.eq_ofNat_of_zero_le ra.1
  obtain ⟨y, rfl⟩ := Int.eq_ofNat_of_zero_le (Int.le_of_lt rb.1)
  have e1 : ∀ n : Nat, Int32.ofInt (n : Int) = nI n := fun n => rfl
  refine lv_irem C.1 C.2.1 hd (fun q => ?_) ?_
  · rw [e1] at q; exact nI_ne0 (by omega) (by omega) q
  · rw [e1, e1, pk_rem (by omega) (by omega) (by omega), ← e1]
    rw [show ((x % y : Nat) : Int) = (x : Int) % (y : Int) from by simp]
    exact k
theorem z_dup (C : zCx K D cl A tys F rm cc own nm Ts nL ret) {v : Value} (hv : v.category = 1) (hd : decode cc pc = .ok (.dup, 1)) (k : zJ K D cl A nL Q (cells) (slots) (σ) (pc + 1) (lv) (v :: v :: st)) : zJ K D cl A nL Q (cells) (slots) (σ) (pc) (lv) (v :: st) := by
  obtain ⟨p, l, e, R, s, m, args, below, meth, c⟩ := K
  intro H locs ls hG hS hL
  exact lv_dup C.1 C.2.1 hd hv (k H locs ls hG hS hL)
theorem z_pop (C : zCx K D cl A tys F rm cc own nm Ts nL ret) {v : Value} (hv : v.category = 1) (hd : decode cc pc = .ok (.pop, 1)) (k : zJ K D cl A nL Q (cells) (slots) (σ) (pc + 1) (lv) (st)) : zJ K D cl A nL Q (cells) (slots) (σ) (pc) (lv) (v :: st) := by
  obtain ⟨p, l, e, R, s, m, args, below, meth, c⟩ := K
  intro H locs ls hG hS hL
  exact lv_pop C.1 C.2.1 hd hv (k H locs ls hG hS hL)
theorem z_dup_x1 (C : zCx K D cl A tys F rm cc own nm Ts nL ret) {v w : Value} (hv : v.category = 1) (hw : w.category = 1) (hd : decode cc pc = .ok (.dup_x1, 1)) (k : zJ K D cl A nL Q (cells) (slots) (σ) (pc + 1) (lv) (v :: w :: v :: st)) : zJ K D cl A nL Q (cells) (slots) (σ) (pc) (lv) (v :: w :: st) := by
  obtain ⟨p, l, e, R, s, m, args, below, meth, c⟩ := K
  intro H locs ls hG hS hL
  exact lv_dup_x1 C.1 C.2.1 hd hv hw (k H locs ls hG hS hL)
theorem z_dup2 (C : zCx K D cl A tys F rm cc own nm Ts nL ret) {v w : Value} (hv : v.category = 1) (hw : w.category = 1) (hd : decode cc pc = .ok (.dup2, 1)) (k : zJ K D cl A nL Q (cells) (slots) (σ) (pc + 1) (lv) (v :: w :: v :: w :: st)) : zJ K D cl A nL Q (cells) (slots) (σ) (pc) (lv) (v :: w :: st) := by
  obtain ⟨p, l, e, R, s, m, args, below, meth, c⟩ := K
  intro H locs ls hG hS hL
  exact lv_dup2_11 C.1 C.2.1 hd hv hw (k H locs ls hG hS hL)
theorem z_pop2 (C : zCx K D cl A tys F rm cc own nm Ts nL ret) {v : Value} (hv : v.category = 2) (hd : decode cc pc = .ok (.pop2, 1)) (k : zJ K D cl A nL Q (cells) (slots) (σ) (pc + 1) (lv) (st)) : zJ K D cl A nL Q (cells) (slots) (σ) (pc) (lv) (v :: st) := by
  obtain ⟨p, l, e, R, s, m, args, below, meth, c⟩ := K
  intro H locs ls hG hS hL
  exact lv_pop2_2 C.1 C.2.1 hd hv (k H locs ls hG hS hL)
theorem z_icmp_eq (C : zCx K D cl A tys F rm cc own nm Ts nL ret) {a b : Int} {off : Int} (tgt : Nat) (ra : -2147483648 ≤ a ∧ a ≤ 2147483647) (rb : -2147483648 ≤ b ∧ b ≤ 2147483647) (hd : decode cc pc = .ok (.if_icmp .eq off, 3)) (ht : (pc : Int) + off = (tgt : Int)) (kt : a = b → zJ K D cl A nL Q (cells) (slots) (σ) (tgt) (lv) (st)) (kf : a ≠ b → zJ K D cl A nL Q (cells) (slots) (σ) (pc + 3) (lv) (st)) : zJ K D cl A nL Q (cells) (slots) (σ) (pc) (lv) (iv b :: iv a :: st) := by
  obtain ⟨p, l, e, R, s, m, args, below, meth, c⟩ := K
  intro H locs ls hG hS hL
  exact lv_icmp_eq C.1 C.2.1 hd ht (fun q => kt ((z32_eq ra rb).mp q) H locs ls hG hS hL) (fun q => kf (by have q2 : ¬ (a = b) := fun z => q ((z32_eq ra rb).mpr z); omega) H locs ls hG hS hL)
theorem z_icmp_lt (C : zCx K D cl A tys F rm cc own nm Ts nL ret) {a b : Int} {off : Int} (tgt : Nat) (ra : -2147483648 ≤ a ∧ a ≤ 2147483647) (rb : -2147483648 ≤ b ∧ b ≤ 2147483647) (hd : decode cc pc = .ok (.if_icmp .lt off, 3)) (ht : (pc : Int) + off = (tgt : Int)) (kt : a < b → zJ K D cl A nL Q (cells) (slots) (σ) (tgt) (lv) (st)) (kf : b ≤ a → zJ K D cl A nL Q (cells) (slots) (σ) (pc + 3) (lv) (st)) : zJ K D cl A nL Q (cells) (slots) (σ) (pc) (lv) (iv b :: iv a :: st) := by
  obtain ⟨p, l, e, R, s, m, args, below, meth, c⟩ := K
  intro H locs ls hG hS hL
  exact lv_icmp_lt C.1 C.2.1 hd ht (fun q => kt ((z32_lt ra rb).mp q) H locs ls hG hS hL) (fun q => kf (by have q2 : ¬ (a < b) := fun z => q ((z32_lt ra rb).mpr z); omega) H locs ls hG hS hL)
theorem z_icmp_ge (C : zCx K D cl A tys F rm cc own nm Ts nL ret) {a b : Int} {off : Int} (tgt : Nat) (ra : -2147483648 ≤ a ∧ a ≤ 2147483647) (rb : -2147483648 ≤ b ∧ b ≤ 2147483647) (hd : decode cc pc = .ok (.if_icmp .ge off, 3)) (ht : (pc : Int) + off = (tgt : Int)) (kt : b ≤ a → zJ K D cl A nL Q (cells) (slots) (σ) (tgt) (lv) (st)) (kf : a < b → zJ K D cl A nL Q (cells) (slots) (σ) (pc + 3) (lv) (st)) : zJ K D cl A nL Q (cells) (slots) (σ) (pc) (lv) (iv b :: iv a :: st) := by
  obtain ⟨p, l, e, R, s, m, args, below, meth, c⟩ := K
  intro H locs ls hG hS hL
  exact lv_icmp_ge C.1 C.2.1 hd ht (fun q => kt ((z32_le rb ra).mp q) H locs ls hG hS hL) (fun q => kf (by have q2 : ¬ (b ≤ a) := fun z => q ((z32_le rb ra).mpr z); omega) H locs ls hG hS hL)
theorem z_icmp_gt (C : zCx K D cl A tys F rm cc own nm Ts nL ret) {a b : Int} {off : Int} (tgt : Nat) (ra : -2147483648 ≤ a ∧ a ≤ 2147483647) (rb : -2147483648 ≤ b ∧ b ≤ 2147483647) (hd : decode cc pc = .ok (.if_icmp .gt off, 3)) (ht : (pc : Int) + off = (tgt : Int)) (kt : b < a → zJ K D cl A nL Q (cells) (slots) (σ) (tgt) (lv) (st)) (kf : a ≤ b → zJ K D cl A nL Q (cells) (slots) (σ) (pc + 3) (lv) (st)) : zJ K D cl A nL Q (cells) (slots) (σ) (pc) (lv) (iv b :: iv a :: st) := by
  obtain ⟨p, l, e, R, s, m, args, below, meth, c⟩ := K
  intro H locs ls hG hS hL
  exact lv_icmp_gt C.1 C.2.1 hd ht (fun q => kt ((z32_lt rb ra).mp q) H locs ls hG hS hL) (fun q => kf (by have q2 : ¬ (b < a) := fun z => q ((z32_lt rb ra).mpr z); omega) H locs ls hG hS hL)
theorem z_icmp_le (C : zCx K D cl A tys F rm cc own nm Ts nL ret) {a b : Int} {off : Int} (tgt : Nat) (ra : -2147483648 ≤ a ∧ a ≤ 2147483647) (rb : -2147483648 ≤ b ∧ b ≤ 2147483647) (hd : decode cc pc = .ok (.if_icmp .le off, 3)) (ht : (pc : Int) + off = (tgt : Int)) (kt : a ≤ b → zJ K D cl A nL Q (cells) (slots) (σ) (tgt) (lv) (st)) (kf : b < a → zJ K D cl A nL Q (cells) (slots) (σ) (pc + 3) (lv) (st)) : zJ K D cl A nL Q (cells) (slots) (σ) (pc) (lv) (iv b :: iv a :: st) := by
  obtain ⟨p, l, e, R, s, m, args, below, meth, c⟩ := K
  intro H locs ls hG hS hL
  exact lv_icmp_le C.1 C.2.1 hd ht (fun q => kt ((z32_le ra rb).mp q) H locs ls hG hS hL) (fun q => kf (by have q2 : ¬ (a ≤ b) := fun z => q ((z32_le ra rb).mpr z); omega) H locs ls hG hS hL)
theorem z_icmp_ne (C : zCx K D cl A tys F rm cc own nm Ts nL ret) {a b : Int} {off : Int} (tgt : Nat) (ra : -2147483648 ≤ a ∧ a ≤ 2147483647) (rb : -2147483648 ≤ b ∧ b ≤ 2147483647) (hd : decode cc pc = .ok (.if_icmp .ne off, 3)) (ht : (pc : Int) + off = (tgt : Int)) (kt : a ≠ b → zJ K D cl A nL Q (cells) (slots) (σ) (tgt) (lv) (st)) (kf : a = b → zJ K D cl A nL Q (cells) (slots) (σ) (pc + 3) (lv) (st)) : zJ K D cl A nL Q (cells) (slots) (σ) (pc) (lv) (iv b :: iv a :: st) := by
  obtain ⟨p, l, e, R, s, m, args, below, meth, c⟩ := K
  intro H locs ls hG hS hL
  exact lv_icmp_ne C.1 C.2.1 hd ht (fun q => kt (fun z => q (by rw [z])) H locs ls hG hS hL) (fun q => kf ((z32_eq ra rb).mp q) H locs ls hG hS hL)
theorem z_if_eq (C : zCx K D cl A tys F rm cc own nm Ts nL ret) {a : Int} {off : Int} (tgt : Nat) (ra : -2147483648 ≤ a ∧ a ≤ 2147483647) (hd : decode cc pc = .ok (.ifCond .eq off, 3)) (ht : (pc : Int) + off = (tgt : Int)) (kt : a = 0 → zJ K D cl A nL Q (cells) (slots) (σ) (tgt) (lv) (st)) (kf : a ≠ 0 → zJ K D cl A nL Q (cells) (slots) (σ) (pc + 3) (lv) (st)) : zJ K D cl A nL Q (cells) (slots) (σ) (pc) (lv) (iv a :: st) := by
  obtain ⟨p, l, e, R, s, m, args, below, meth, c⟩ := K
  intro H locs ls hG hS hL
  have e0 := z32_eq ra (b := 0) (by omega)
  rw [z32_0] at e0
  exact lv_if_eq C.1 C.2.1 hd ht (fun q => kt (e0.mp q) H locs ls hG hS hL) (fun q => kf (by have q2 : ¬ (a = 0) := fun z => q (e0.mpr z); omega) H locs ls hG hS hL)
theorem z_if_lt (C : zCx K D cl A tys F rm cc own nm Ts nL ret) {a : Int} {off : Int} (tgt : Nat) (ra : -2147483648 ≤ a ∧ a ≤ 2147483647) (hd : decode cc pc = .ok (.ifCond .lt off, 3)) (ht : (pc : Int) + off = (tgt : Int)) (kt : a < 0 → zJ K D cl A nL Q (cells) (slots) (σ) (tgt) (lv) (st)) (kf : 0 ≤ a → zJ K D cl A nL Q (cells) (slots) (σ) (pc + 3) (lv) (st)) : zJ K D cl A nL Q (cells) (slots) (σ) (pc) (lv) (iv a :: st) := by
  obtain ⟨p, l, e, R, s, m, args, below, meth, c⟩ := K
  intro H locs ls hG hS hL
  have e0 := z32_lt ra (b := 0) (by omega)
  rw [z32_0] at e0
  exact lv_if_lt C.1 C.2.1 hd ht (fun q => kt (e0.mp q) H locs ls hG hS hL) (fun q => kf (by have q2 : ¬ (a < 0) := fun z => q (e0.mpr z); omega) H locs ls hG hS hL)
theorem z_if_ge (C : zCx K D cl A tys F rm cc own nm Ts nL ret) {a : Int} {off : Int} (tgt : Nat) (ra : -2147483648 ≤ a ∧ a ≤ 2147483647) (hd : decode cc pc = .ok (.ifCond .ge off, 3)) (ht : (pc : Int) + off = (tgt : Int)) (kt : 0 ≤ a → zJ K D cl A nL Q (cells) (slots) (σ) (tgt) (lv) (st)) (kf : a < 0 → zJ K D cl A nL Q (cells) (slots) (σ) (pc + 3) (lv) (st)) : zJ K D cl A nL Q (cells) (slots) (σ) (pc) (lv) (iv a :: st) := by
  obtain ⟨p, l, e, R, s, m, args, below, meth, c⟩ := K
  intro H locs ls hG hS hL
  have e0 := z32_le (a := 0) (by omega) ra
  rw [z32_0] at e0
  exact lv_if_ge C.1 C.2.1 hd ht (fun q => kt (e0.mp q) H locs ls hG hS hL) (fun q => kf (by have q2 : ¬ (0 ≤ a) := fun z => q (e0.mpr z); omega) H locs ls hG hS hL)
theorem z_if_gt (C : zCx K D cl A tys F rm cc own nm Ts nL ret) {a : Int} {off : Int} (tgt : Nat) (ra : -2147483648 ≤ a ∧ a ≤ 2147483647) (hd : decode cc pc = .ok (.ifCond .gt off, 3)) (ht : (pc : Int) + off = (tgt : Int)) (kt : 0 < a → zJ K D cl A nL Q (cells) (slots) (σ) (tgt) (lv) (st)) (kf : a ≤ 0 → zJ K D cl A nL Q (cells) (slots) (σ) (pc + 3) (lv) (st)) : zJ K D cl A nL Q (cells) (slots) (σ) (pc) (lv) (iv a :: st) := by
  obtain ⟨p, l, e, R, s, m, args, below, meth, c⟩ := K
  intro H locs ls hG hS hL
  have e0 := z32_lt (a := 0) (by omega) ra
  rw [z32_0] at e0
  exact lv_if_gt C.1 C.2.1 hd ht (fun q => kt (e0.mp q) H locs ls hG hS hL) (fun q => kf (by have q2 : ¬ (0 < a) := fun z => q (e0.mpr z); omega) H locs ls hG hS hL)
theorem z_if_le (C : zCx K D cl A tys F rm cc own nm Ts nL ret) {a : Int} {off : Int} (tgt : Nat) (ra : -2147483648 ≤ a ∧ a ≤ 2147483647) (hd : decode cc pc = .ok (.ifCond .le off, 3)) (ht : (pc : Int) + off = (tgt : Int)) (kt : a ≤ 0 → zJ K D cl A nL Q (cells) (slots) (σ) (tgt) (lv) (st)) (kf : 0 < a → zJ K D cl A nL Q (cells) (slots) (σ) (pc + 3) (lv) (st)) : zJ K D cl A nL Q (cells) (slots) (σ) (pc) (lv) (iv a :: st) := by
  obtain ⟨p, l, e, R, s, m, args, below, meth, c⟩ := K
  intro H locs ls hG hS hL
  have e0 := z32_le ra (b := 0) (by omega)
  rw [z32_0] at e0
  exact lv_if_le C.1 C.2.1 hd ht (fun q => kt (e0.mp q) H locs ls hG hS hL) (fun q => kf (by have q2 : ¬ (a ≤ 0) := fun z => q (e0.mpr z); omega) H locs ls hG hS hL)
theorem z_if_ne (C : zCx K D cl A tys F rm cc own nm Ts nL ret) {a : Int} {off : Int} (tgt : Nat) (ra : -2147483648 ≤ a ∧ a ≤ 2147483647) (hd : decode cc pc = .ok (.ifCond .ne off, 3)) (ht : (pc : Int) + off = (tgt : Int)) (kt : a ≠ 0 → zJ K D cl A nL Q (cells) (slots) (σ) (tgt) (lv) (st)) (kf : a = 0 → zJ K D cl A nL Q (cells) (slots) (σ) (pc + 3) (lv) (st)) : zJ K D cl A nL Q (cells) (slots) (σ) (pc) (lv) (iv a :: st) := by
  obtain ⟨p, l, e, R, s, m, args, below, meth, c⟩ := K
  intro H locs ls hG hS hL
  have e0 := z32_eq ra (b := 0) (by omega)
  rw [z32_0] at e0
  exact lv_if_ne C.1 C.2.1 hd ht (fun q => kt (fun z => q (e0.mpr z)) H locs ls hG hS hL) (fun q => kf (e0.mp q) H locs ls hG hS hL)
theorem z_goto (C : zCx K D cl A tys F rm cc own nm Ts nL ret) {off : Int} (tgt : Nat) (hd : decode cc pc = .ok (.goto off, 3)) (ht : (pc : Int) + off = (tgt : Int)) (k : zJ K D cl A nL Q (cells) (slots) (σ) (tgt) (lv) (st)) : zJ K D cl A nL Q (cells) (slots) (σ) (pc) (lv) (st) := by
  obtain ⟨p, l, e, R, s, m, args, below, meth, c⟩ := K
  intro H locs ls hG hS hL
  exact lv_goto C.1 C.2.1 hd ht (k H locs ls hG hS hL)
theorem z_ifnull (C : zCx K D cl A tys F rm cc own nm Ts nL ret) {x : Nat} {off : Int} (hd : decode cc pc = .ok (.ifnull off, 3)) (k : zJ K D cl A nL Q (cells) (slots) (σ) (pc + 3) (lv) (st)) : zJ K D cl A nL Q (cells) (slots) (σ) (pc) (lv) (.ref x :: st) := by
  obtain ⟨p, l, e, R, s, m, args, below, meth, c⟩ := K
  intro H locs ls hG hS hL
  exact lv_ifnull C.1 C.2.1 hd (k H locs ls hG hS hL)
theorem z_ifnullN (C : zCx K D cl A tys F rm cc own nm Ts nL ret) {off : Int} (tgt : Nat) (hd : decode cc pc = .ok (.ifnull off, 3)) (ht : (pc : Int) + off = (tgt : Int)) (k : zJ K D cl A nL Q (cells) (slots) (σ) (tgt) (lv) (st)) : zJ K D cl A nL Q (cells) (slots) (σ) (pc) (lv) (.null :: st) := by
  obtain ⟨p, l, e, R, s, m, args, below, meth, c⟩ := K
  intro H locs ls hG hS hL
  exact lv_ifnullN C.1 C.2.1 hd ht (k H locs ls hG hS hL)
theorem z_ifnonnull (C : zCx K D cl A tys F rm cc own nm Ts nL ret) {x : Nat} {off : Int} (tgt : Nat) (hd : decode cc pc = .ok (.ifnonnull off, 3)) (ht : (pc : Int) + off = (tgt : Int)) (k : zJ K D cl A nL Q (cells) (slots) (σ) (tgt) (lv) (st)) : zJ K D cl A nL Q (cells) (slots) (σ) (pc) (lv) (.ref x :: st) := by
  obtain ⟨p, l, e, R, s, m, args, below, meth, c⟩ := K
  intro H locs ls hG hS hL
  exact lv_ifnonnull C.1 C.2.1 hd ht (k H locs ls hG hS hL)
theorem z_ifnonnullN (C : zCx K D cl A tys F rm cc own nm Ts nL ret) {off : Int} (hd : decode cc pc = .ok (.ifnonnull off, 3)) (k : zJ K D cl A nL Q (cells) (slots) (σ) (pc + 3) (lv) (st)) : zJ K D cl A nL Q (cells) (slots) (σ) (pc) (lv) (.null :: st) := by
  obtain ⟨p, l, e, R, s, m, args, below, meth, c⟩ := K
  intro H locs ls hG hS hL
  exact lv_ifnonnullN C.1 C.2.1 hd (k H locs ls hG hS hL)
theorem z_acmp_eq (C : zCx K D cl A tys F rm cc own nm Ts nL ret) {x y : Nat} {off : Int} (tgt : Nat) (hd : decode cc pc = .ok (.if_acmp .eq off, 3)) (ht : (pc : Int) + off = (tgt : Int)) (kt : x = y → zJ K D cl A nL Q (cells) (slots) (σ) (tgt) (lv) (st)) (kf : x ≠ y → zJ K D cl A nL Q (cells) (slots) (σ) (pc + 3) (lv) (st)) : zJ K D cl A nL Q (cells) (slots) (σ) (pc) (lv) (.ref y :: .ref x :: st) := by
  obtain ⟨p, l, e, R, s, m, args, below, meth, c⟩ := K
  intro H locs ls hG hS hL
  exact lv_acmp_eq (rx := some x) (ry := some y) C.1 C.2.1 hd ht (fun q => kt (Option.some.inj q) H locs ls hG hS hL) (fun q => kf (fun z => q (by rw [z])) H locs ls hG hS hL)
theorem z_acmp_ne (C : zCx K D cl A tys F rm cc own nm Ts nL ret) {x y : Nat} {off : Int} (tgt : Nat) (hd : decode cc pc = .ok (.if_acmp .ne off, 3)) (ht : (pc : Int) + off = (tgt : Int)) (kt : x ≠ y → zJ K D cl A nL Q (cells) (slots) (σ) (tgt) (lv) (st)) (kf : x = y → zJ K D cl A nL Q (cells) (slots) (σ) (pc + 3) (lv) (st)) : zJ K D cl A nL Q (cells) (slots) (σ) (pc) (lv) (.ref y :: .ref x :: st) := by
  obtain ⟨p, l, e, R, s, m, args, below, meth, c⟩ := K
  intro H locs ls hG hS hL
  exact lv_acmp_ne (rx := some x) (ry := some y) C.1 C.2.1 hd ht (fun q => kt (fun z => q (by rw [z])) H locs ls hG hS hL) (fun q => kf (Option.some.inj q) H locs ls hG hS hL)
theorem z_lcmp (C : zCx K D cl A tys F rm cc own nm Ts nL ret) {a b : Int} (ra : -9223372036854775808 ≤ a ∧ a ≤ 9223372036854775807) (rb : -9223372036854775808 ≤ b ∧ b ≤ 9223372036854775807) (hd : decode cc pc = .ok (.lcmp, 1)) (k : ∀ v : Int, (v = 1 ∧ b < a) ∨ (v = 0 ∧ a = b) ∨ (v = -1 ∧ a < b) → zJ K D cl A nL Q (cells) (slots) (σ) (pc + 1) (lv) (iv v :: st)) : zJ K D cl A nL Q (cells) (slots) (σ) (pc) (lv) (jv b :: jv a :: st) := by
  obtain ⟨p, l, e, R, s, m, args, below, meth, c⟩ := K
  intro H locs ls hG hS hL
  refine W.lcmp C.1 C.2.1 hd ?_
  by_cases h1 : b < a
  · rw [show lg_cmp (Int64.ofInt a) (Int64.ofInt b) = Int32.ofInt 1 from by simp [lg_cmp, (z64_lt rb ra).mpr h1]]
    exact k 1 (Or.inl ⟨rfl, h1⟩) H locs ls hG hS hL
  · by_cases h2 : a = b
    · subst h2
      rw [show lg_cmp (Int64.ofInt a) (Int64.ofInt a) = Int32.ofInt 0 from by simp [lg_cmp]]
      exact k 0 (Or.inr (Or.inl ⟨rfl, rfl⟩)) H locs ls hG hS hL
    · rw [show lg_cmp (Int64.ofInt a) (Int64.ofInt b) = Int32.ofInt (-1) from by simp [lg_cmp, mt (z64_lt rb ra).mp h1, mt (z64_eq ra rb).mp h2]]
      exact k (-1) (Or.inr (Or.inr ⟨rfl, by omega⟩)) H locs ls hG hS hL
theorem z_tableOut (C : zCx K D cl A tys F rm cc own nm Ts nL ret) {dflt lo hi : Int} {offs : Array Int} {len : Nat} {a : Int} (tgt : Nat) (ra : -2147483648 ≤ a ∧ a ≤ 2147483647) (hd : decode cc pc = .ok (.tableswitch dflt lo hi offs, len)) (h : a < lo ∨ hi < a) (ht : (pc : Int) + dflt = (tgt : Int)) (k : zJ K D cl A nL Q (cells) (slots) (σ) (tgt) (lv) (st)) : zJ K D cl A nL Q (cells) (slots) (σ) (pc) (lv) (iv a :: st) := by
  obtain ⟨p, l, e, R, s, m, args, below, meth, c⟩ := K
  intro H locs ls hG hS hL
  exact lv_tableOut C.1 C.2.1 hd (by rw [z32 ra]; exact h) ht (k H locs ls hG hS hL)
theorem z_tableIn (C : zCx K D cl A tys F rm cc own nm Ts nL ret) {dflt lo hi : Int} {offs : Array Int} {len : Nat} {a off : Int} (tgt : Nat) (ra : -2147483648 ≤ a ∧ a ≤ 2147483647) (hd : decode cc pc = .ok (.tableswitch dflt lo hi offs, len)) (h1 : ¬ a < lo) (h2 : ¬ hi < a) (ho : offs[(a - lo).toNat]? = some off) (ht : (pc : Int) + off = (tgt : Int)) (k : zJ K D cl A nL Q (cells) (slots) (σ) (tgt) (lv) (st)) : zJ K D cl A nL Q (cells) (slots) (σ) (pc) (lv) (iv a :: st) := by
  obtain ⟨p, l, e, R, s, m, args, below, meth, c⟩ := K
  intro H locs ls hG hS hL
  exact lv_tableIn C.1 C.2.1 hd (by rw [z32 ra]; exact h1) (by rw [z32 ra]; exact h2) (by rw [z32 ra]; exact ho) ht (k H locs ls hG hS hL)
theorem z_iald (C : zCx K D cl A tys F rm cc own nm Ts nL ret) {cA : ClassId} {n a : Nat} {f : Nat → Int} {i : Int} (t0 : Nat) (ht : tys[t0]? = some (cA, .int)) (h : σ a = some (ia cA n f)) (k : Nat) (hk : i = (k : Int)) (hn : k < n) (hm : n ≤ 2147483647) (hd : decode cc pc = .ok (.iaload, 1)) (kk : zJ K D cl A nL Q (cells) (slots) (σ) (pc + 1) (lv) (iv (f k) :: st)) : zJ K D cl A nL Q (cells) (slots) (σ) (pc) (lv) (iv i :: .ref a :: st) := by
  obtain ⟨p, l, e, R, s, m, args, below, meth, c⟩ := K
  intro H locs ls hG hS hL
  obtain ⟨ws, hP, hD, hW⟩ := id hG
  obtain ⟨j, hj⟩ := hW a _ h
  refine va_iald C.1 C.2.1 C.2.2.2.2.2.2.2.1 hP j t0 hj ht (zin hk (by omega) hn) hd ?_
  rw [zidx hk (by omega)]
  exact kk H locs ls hG hS hL
theorem z_zald (C : zCx K D cl A tys F rm cc own nm Ts nL ret) {cA : ClassId} {n a : Nat} {f : Nat → Int} {i : Int} (t0 : Nat) (ht : tys[t0]? = some (cA, .boolean)) (h : σ a = some (ia cA n f)) (k : Nat) (hk : i = (k : Int)) (hn : k < n) (hm : n ≤ 2147483647) (hd : decode cc pc = .ok (.baload, 1)) (kk : zJ K D cl A nL Q (cells) (slots) (σ) (pc + 1) (lv) (iv (f k) :: st)) : zJ K D cl A nL Q (cells) (slots) (σ) (pc) (lv) (iv i :: .ref a :: st) := by
  obtain ⟨p, l, e, R, s, m, args, below, meth, c⟩ := K
  intro H locs ls hG hS hL
  obtain ⟨ws, hP, hD, hW⟩ := id hG
  obtain ⟨j, hj⟩ := hW a _ h
  refine va_zald C.1 C.2.1 C.2.2.2.2.2.2.2.1 hP j t0 hj ht (zin hk (by omega) hn) hd ?_
  rw [zidx hk (by omega)]
  exact kk H locs ls hG hS hL
theorem z_lald (C : zCx K D cl A tys F rm cc own nm Ts nL ret) {cA : ClassId} {n a : Nat} {f : Nat → Int} {i : Int} (t0 : Nat) (ht : tys[t0]? = some (cA, .long)) (h : σ a = some (la cA n f)) (k : Nat) (hk : i = (k : Int)) (hn : k < n) (hm : n ≤ 2147483647) (hd : decode cc pc = .ok (.laload, 1)) (kk : zJ K D cl A nL Q (cells) (slots) (σ) (pc + 1) (lv) (jv (f k) :: st)) : zJ K D cl A nL Q (cells) (slots) (σ) (pc) (lv) (iv i :: .ref a :: st) := by
  obtain ⟨p, l, e, R, s, m, args, below, meth, c⟩ := K
  intro H locs ls hG hS hL
  obtain ⟨ws, hP, hD, hW⟩ := id hG
  obtain ⟨j, hj⟩ := hW a _ h
  refine va_lald C.1 C.2.1 C.2.2.2.2.2.2.2.1 hP j t0 hj ht (zin hk (by omega) hn) hd ?_
  rw [zidx hk (by omega)]
  exact kk H locs ls hG hS hL
theorem z_aald (C : zCx K D cl A tys F rm cc own nm Ts nL ret) {cA : ClassId} {n a : Nat} {f : Nat → Option Nat} {i : Int} {cn : String} (t0 : Nat) (ht : tys[t0]? = some (cA, .object cn)) (h : σ a = some (ra cA n f)) (k : Nat) (hk : i = (k : Int)) (hn : k < n) (hm : n ≤ 2147483647) (hd : decode cc pc = .ok (.aaload, 1)) (kk : zJ K D cl A nL Q (cells) (slots) (σ) (pc + 1) (lv) (va_rf (f k) :: st)) : zJ K D cl A nL Q (cells) (slots) (σ) (pc) (lv) (iv i :: .ref a :: st) := by
  obtain ⟨p, l, e, R, s, m, args, below, meth, c⟩ := K
  intro H locs ls hG hS hL
  obtain ⟨ws, hP, hD, hW⟩ := id hG
  obtain ⟨j, hj⟩ := hW a _ h
  refine va_aldq C.1 C.2.1 C.2.2.2.2.2.2.2.1 hP j t0 hj ht (zin hk (by omega) hn) hd ?_
  rw [zidx hk (by omega)]
  exact kk H locs ls hG hS hL
theorem z_iast (C : zCx K D cl A tys F rm cc own nm Ts nL ret) {cA : ClassId} {n a : Nat} {f : Nat → Int} {i v : Int} (t0 : Nat) (ht : tys[t0]? = some (cA, .int)) (h : σ a = some (ia cA n f)) (k : Nat) (hk : i = (k : Int)) (hn : k < n) (hm : n ≤ 2147483647) (hd : decode cc pc = .ok (.iastore, 1)) (kk : zJ K D cl A nL Q (cells) (slots) (zput σ a (ia cA n (iup f k v))) (pc + 1) (lv) (st)) : zJ K D cl A nL Q (cells) (slots) (σ) (pc) (lv) (iv v :: iv i :: .ref a :: st) := by
  obtain ⟨p, l, e, R, s, m, args, below, meth, c⟩ := K
  intro H locs ls hG hS hL
  obtain ⟨ws, hP, hD, hW⟩ := id hG
  obtain ⟨j, hj⟩ := hW a _ h
  refine va_iast C.1 C.2.1 C.2.2.2.2.2.2.2.1 hP hD hS j t0 hj ht (zin hk (by omega) hn) hd (fun H1 locs1 hP1 hD1 hS1 => ?_)
  rw [zidx hk (by omega), zup_i] at hP1 hD1
  exact kk H1 locs1 ls (zG.set hW hj hP1 hD1) hS1 hL
theorem z_zast (C : zCx K D cl A tys F rm cc own nm Ts nL ret) {cA : ClassId} {n a : Nat} {f : Nat → Int} {i v : Int} (t0 : Nat) (ht : tys[t0]? = some (cA, .boolean)) (h : σ a = some (ia cA n f)) (k : Nat) (hk : i = (k : Int)) (hn : k < n) (hm : n ≤ 2147483647) (hv : v = 0 ∨ v = 1) (hd : decode cc pc = .ok (.bastore, 1)) (kk : zJ K D cl A nL Q (cells) (slots) (zput σ a (ia cA n (iup f k v))) (pc + 1) (lv) (st)) : zJ K D cl A nL Q (cells) (slots) (σ) (pc) (lv) (iv v :: iv i :: .ref a :: st) := by
  obtain ⟨p, l, e, R, s, m, args, below, meth, c⟩ := K
  intro H locs ls hG hS hL
  obtain ⟨ws, hP, hD, hW⟩ := id hG
  obtain ⟨j, hj⟩ := hW a _ h
  refine va_zast C.1 C.2.1 C.2.2.2.2.2.2.2.1 hP hD hS j t0 hj ht (zin hk (by omega) hn) hd (fun H1 locs1 hP1 hD1 hS1 => ?_)
  rw [zidx hk (by omega), znar hv, zup_i] at hP1 hD1
  exact kk H1 locs1 ls (zG.set hW hj hP1 hD1) hS1 hL
theorem z_last (C : zCx K D cl A tys F rm cc own nm Ts nL ret) {cA : ClassId} {n a : Nat} {f : Nat → Int} {i v : Int} (t0 : Nat) (ht : tys[t0]? = some (cA, .long)) (h : σ a = some (la cA n f)) (k : Nat) (hk : i = (k : Int)) (hn : k < n) (hm : n ≤ 2147483647) (hd : decode cc pc = .ok (.lastore, 1)) (kk : zJ K D cl A nL Q (cells) (slots) (zput σ a (la cA n (iup f k v))) (pc + 1) (lv) (st)) : zJ K D cl A nL Q (cells) (slots) (σ) (pc) (lv) (jv v :: iv i :: .ref a :: st) := by
  obtain ⟨p, l, e, R, s, m, args, below, meth, c⟩ := K
  intro H locs ls hG hS hL
  obtain ⟨ws, hP, hD, hW⟩ := id hG
  obtain ⟨j, hj⟩ := hW a _ h
  refine va_last C.1 C.2.1 C.2.2.2.2.2.2.2.1 hP hD hS j t0 hj ht (zin hk (by omega) hn) hd (fun H1 locs1 hP1 hD1 hS1 => ?_)
  rw [zidx hk (by omega), zup_l] at hP1 hD1
  exact kk H1 locs1 ls (zG.set hW hj hP1 hD1) hS1 hL
theorem z_aast (C : zCx K D cl A tys F rm cc own nm Ts nL ret) {cA : ClassId} {n a b ci : Nat} {r : vw_C} {vs : List Value} {f : Nat → Option Nat} {i : Int} (t0 : Nat) (ht : tys[t0]? = some (cA, .object r.1)) (h : σ a = some (ra cA n f)) (hb : σ b = some (ob ci vs)) (hc : cl[ci]? = some r) (k : Nat) (hk : i = (k : Int)) (hn : k < n) (hm : n ≤ 2147483647) (hd : decode cc pc = .ok (.aastore, 1)) (kk : zJ K D cl A nL Q (cells) (slots) (zput σ a (ra cA n (va_up f k (some b)))) (pc + 1) (lv) (st)) : zJ K D cl A nL Q (cells) (slots) (σ) (pc) (lv) (.ref b :: iv i :: .ref a :: st) := by
  obtain ⟨p, l, e, R, s, m, args, below, meth, c⟩ := K
  intro H locs ls hG hS hL
  obtain ⟨ws, hP, hD, hW⟩ := id hG
  obtain ⟨j, hj⟩ := hW a _ h
  obtain ⟨jb, hjb⟩ := hW b _ hb
  refine va_astq C.1 C.2.1 C.2.2.2.2.2.2.2.1 hP hD hS j t0 jb ci hj ht hjb hc (zin hk (by omega) hn) hd (fun H1 locs1 hP1 hD1 hS1 => ?_)
  rw [zidx hk (by omega)] at hP1 hD1
  exact kk H1 locs1 ls (zG.set hW hj hP1 hD1) hS1 hL
theorem z_aastN (C : zCx K D cl A tys F rm cc own nm Ts nL ret) {cA : ClassId} {n a : Nat} {cn : String} {f : Nat → Option Nat} {i : Int} (t0 : Nat) (ht : tys[t0]? = some (cA, .object cn)) (h : σ a = some (ra cA n f)) (k : Nat) (hk : i = (k : Int)) (hn : k < n) (hm : n ≤ 2147483647) (hd : decode cc pc = .ok (.aastore, 1)) (kk : zJ K D cl A nL Q (cells) (slots) (zput σ a (ra cA n (va_up f k none))) (pc + 1) (lv) (st)) : zJ K D cl A nL Q (cells) (slots) (σ) (pc) (lv) (.null :: iv i :: .ref a :: st) := by
  obtain ⟨p, l, e, R, s, m, args, below, meth, c⟩ := K
  intro H locs ls hG hS hL
  obtain ⟨ws, hP, hD, hW⟩ := id hG
  obtain ⟨j, hj⟩ := hW a _ h
  refine va_astqN C.1 C.2.1 C.2.2.2.2.2.2.2.1 hP hD hS j t0 hj ht (zin hk (by omega) hn) hd (fun H1 locs1 hP1 hD1 hS1 => ?_)
  rw [zidx hk (by omega)] at hP1 hD1
  exact kk H1 locs1 ls (zG.set hW hj hP1 hD1) hS1 hL
theorem z_alen (C : zCx K D cl A tys F rm cc own nm Ts nL ret) {cA : ClassId} {x : vp_A} {a : Nat} {ty : FieldType} (t0 : Nat) (ht : tys[t0]? = some (cA, ty)) (h : σ a = some (.inl (cA, x))) (v : Int) (hv : Int32.ofNat x.1 = Int32.ofInt v) (hd : decode cc pc = .ok (.arraylength, 1)) (kk : zJ K D cl A nL Q (cells) (slots) (σ) (pc + 1) (lv) (iv v :: st)) : zJ K D cl A nL Q (cells) (slots) (σ) (pc) (lv) (.ref a :: st) := by
  obtain ⟨p, l, e, R, s, m, args, below, meth, c⟩ := K
  intro H locs ls hG hS hL
  obtain ⟨ws, hP, hD, hW⟩ := id hG
  obtain ⟨j, hj⟩ := hW a _ h
  exact va_alen C.1 C.2.1 C.2.2.2.2.2.2.2.1 hP j t0 hj ht hv hd (kk H locs ls hG hS hL)
theorem z_get (C : zCx K D cl A tys F rm cc own nm Ts nL ret) {ref cn : String} {T : u_T} {N ci index a : Nat} {fs : List Value} {v : Value} (hin : ∀ w ∈ u_ws cn T N, w ∈ Ts) (h : σ a = some (ob ci fs)) (hc : cl[ci]? = some (cn, T, N)) (k : Nat) (hk : k < N) (hl : Cond.fieldLink own index ref (T k).2.1 (T k).2.2.1 ∈ Ts) (hr : (T k).1 = ref) (hv : fs[k]? = some v) (hd : decode cc pc = .ok (.getfield index, 3)) (kk : zJ K D cl A nL Q (cells) (slots) (σ) (pc + 3) (lv) (v :: st)) : zJ K D cl A nL Q (cells) (slots) (σ) (pc) (lv) (.ref a :: st) := by
  obtain ⟨p, l, e, R, s, m, args, below, meth, c⟩ := K
  intro H locs ls hG hS hL
  obtain ⟨ws, hP, hD, hW⟩ := id hG
  obtain ⟨j, hj⟩ := hW a _ h
  exact va_get C.1 C.2.1 C.2.2.2.2.1 hin C.2.2.2.1 C.2.2.2.2.2.2.2.1 hP j hj hc k hk (C.2.2.2.2.1 _ hl) (fun x hx => by rw [← hr]; exact hx) hv hd (kk H locs ls hG hS hL)
theorem z_getN (C : zCx K D cl A tys F rm cc own nm Ts nL ret) {ref cn host : String} {T : u_T} {N ci index a : Nat} {fs : List Value} {v : Value} (hin : ∀ w ∈ u_ws cn T N, w ∈ Ts) (h : σ a = some (ob ci fs)) (hc : cl[ci]? = some (cn, T, N)) (k : Nat) (hk : k < N) (hl : ∀ s : State, F s → va_Nw (.fieldLinkNest own index ref (T k).2.1 (T k).2.2.1 host) s) (hr : (T k).1 = ref) (hv : fs[k]? = some v) (hd : decode cc pc = .ok (.getfield index, 3)) (kk : zJ K D cl A nL Q (cells) (slots) (σ) (pc + 3) (lv) (v :: st)) : zJ K D cl A nL Q (cells) (slots) (σ) (pc) (lv) (.ref a :: st) := by
  obtain ⟨p, l, e, R, s, m, args, below, meth, c⟩ := K
  intro H locs ls hG hS hL
  obtain ⟨ws, hP, hD, hW⟩ := id hG
  obtain ⟨j, hj⟩ := hW a _ h
  exact va_getN C.1 C.2.1 C.2.2.2.2.1 hin C.2.2.2.1 C.2.2.2.2.2.2.2.1 hP j hj hc k hk (va_Nw.use rfl (hl s C.2.2.2.2.2.2.2.2.2.1)) (fun x hx => by rw [← hr]; exact hx) hv hd (kk H locs ls hG hS hL)
theorem z_put (C : zCx K D cl A tys F rm cc own nm Ts nL ret) {ref cn : String} {T : u_T} {N ci index a : Nat} {fs : List Value} {ty : FieldType} {v : Value} (hin : ∀ w ∈ u_ws cn T N, w ∈ Ts) (ty0 : Nat → FieldType) (hty : ∀ k, k < N → parseFieldDescriptor (T k).2.2.1 = some (ty0 k)) (hnm : ∀ a, a < N → ∀ b, b < N → a ≠ b → (T a).2.1 ≠ (T b).2.1) (h : σ a = some (ob ci fs)) (hc : cl[ci]? = some (cn, T, N)) (k : Nat) (hk : k < N) (hl : Cond.fieldLink own index ref (T k).2.1 (T k).2.2.1 ∈ Ts) (hr : (T k).1 = ref) (hfin : (T k).2.2.2 = false) (hd9 : parseFieldDescriptor (T k).2.2.1 = some ty) (hnn : narrow ty v = v) (hfit : fits ty v = true) (hl9 : k < fs.length) (hd : decode cc pc = .ok (.putfield index, 3)) (kk : zJ K D cl A nL Q (cells) (slots) (zput σ a (ob ci (fs.set k v))) (pc + 3) (lv) (st)) : zJ K D cl A nL Q (cells) (slots) (σ) (pc) (lv) (v :: .ref a :: st) := by
  obtain ⟨p, l, e, R, s, m, args, below, meth, c⟩ := K
  intro H locs ls hG hS hL
  obtain ⟨ws, hP, hD, hW⟩ := id hG
  obtain ⟨j, hj⟩ := hW a _ h
  exact va_put C.1 C.2.1 C.2.2.2.2.1 hin ty0 hty hnm C.2.2.2.1 C.2.2.2.2.2.2.2.1 hP hD hS j hj hc k hk (C.2.2.2.2.1 _ hl) (fun x hx => by rw [← hr]; exact hx) hfin hd9 hnn hfit hl9 hd (fun H1 locs1 hP1 hD1 hS1 => kk H1 locs1 ls (zG.set hW hj hP1 hD1) hS1 hL)
theorem z_putN (C : zCx K D cl A tys F rm cc own nm Ts nL ret) {ref cn host : String} {T : u_T} {N ci index a : Nat} {fs : List Value} {ty : FieldType} {v : Value} (hin : ∀ w ∈ u_ws cn T N, w ∈ Ts) (ty0 : Nat → FieldType) (hty : ∀ k, k < N → parseFieldDescriptor (T k).2.2.1 = some (ty0 k)) (hnm : ∀ a, a < N → ∀ b, b < N → a ≠ b → (T a).2.1 ≠ (T b).2.1) (h : σ a = some (ob ci fs)) (hc : cl[ci]? = some (cn, T, N)) (k : Nat) (hk : k < N) (hl : ∀ s : State, F s → va_Nw (.fieldLinkNest own index ref (T k).2.1 (T k).2.2.1 host) s) (hr : (T k).1 = ref) (hfin : (T k).2.2.2 = false) (hd9 : parseFieldDescriptor (T k).2.2.1 = some ty) (hnn : narrow ty v = v) (hfit : fits ty v = true) (hl9 : k < fs.length) (hd : decode cc pc = .ok (.putfield index, 3)) (kk : zJ K D cl A nL Q (cells) (slots) (zput σ a (ob ci (fs.set k v))) (pc + 3) (lv) (st)) : zJ K D cl A nL Q (cells) (slots) (σ) (pc) (lv) (v :: .ref a :: st) := by
  obtain ⟨p, l, e, R, s, m, args, below, meth, c⟩ := K
  intro H locs ls hG hS hL
  obtain ⟨ws, hP, hD, hW⟩ := id hG
  obtain ⟨j, hj⟩ := hW a _ h
  exact va_putN C.1 C.2.1 C.2.2.2.2.1 hin ty0 hty hnm C.2.2.2.1 C.2.2.2.2.2.2.2.1 hP hD hS j hj hc k hk (va_Nw.use rfl (hl s C.2.2.2.2.2.2.2.2.2.1)) (fun x hx => by rw [← hr]; exact hx) hfin hd9 hnn hfit hl9 hd (fun H1 locs1 hP1 hD1 hS1 => kk H1 locs1 ls (zG.set hW hj hP1 hD1) hS1 hL)
end ZR
end
section
section ZS
variable {K : zC} {D : va_G} {cl : List vw_C} {A : Nat → Prop} {tys : List (ClassId × FieldType)} {F : State → Prop} {rm : Room} {cc : ByteArray} {own nm : String} {Ts : List Cond} {nL : Nat} {ret : Option FieldType} {Q : State → Prop} {cells slots pc : Nat} {σ : zh} {lv : List (Option Value)} {st : List Value}
theorem z_putF (C : zCx K D cl A tys F rm cc own nm Ts nL ret) {cn : String} {T : u_T} {N ci index a : Nat} {fs : List Value} {ty : FieldType} {v : Value} (hin : ∀ w ∈ u_ws cn T N, w ∈ Ts) (ty0 : Nat → FieldType) (hty : ∀ k, k < N → parseFieldDescriptor (T k).2.2.1 = some (ty0 k)) (hnm : ∀ a, a < N → ∀ b, b < N → a ≠ b → (T a).2.1 ≠ (T b).2.1) (h : σ a = some (ob ci fs)) (hc : cl[ci]? = some (cn, T, N)) (k : Nat) (hk : k < N) (hl : Cond.fieldLink own index own (T k).2.1 (T k).2.2.1 ∈ Ts) (hr : (T k).1 = own) (hfin : (T k).2.2.2 = true) (hin2 : nm = "<init>") (hd9 : parseFieldDescriptor (T k).2.2.1 = some ty) (hnn : narrow ty v = v) (hfit : fits ty v = true) (hl9 : k < fs.length) (hd : decode cc pc = .ok (.putfield index, 3)) (kk : zJ K D cl A nL Q (cells) (slots) (zput σ a (ob ci (fs.set k v))) (pc + 3) (lv) (st)) : zJ K D cl A nL Q (cells) (slots) (σ) (pc) (lv) (v :: .ref a :: st) := by
  obtain ⟨p, l, e, R, s, m, args, below, meth, c⟩ := K
  intro H locs ls hG hS hL
  obtain ⟨ws, hP, hD, hW⟩ := id hG
  obtain ⟨j, hj⟩ := hW a _ h
  exact va_putF C.1 C.2.1 C.2.2.2.2.1 hin ty0 hty hnm C.2.2.2.1 C.2.2.2.2.2.2.2.1 hP hD hS j hj hc k hk (C.2.2.2.2.1 _ hl) (fun x hx => by rw [← hr]; exact hx) hfin (C.2.2.2.2.2.2.2.2.2.2.2.2.trans hin2) hr hd9 hnn hfit hl9 hd (fun H1 locs1 hP1 hD1 hS1 => kk H1 locs1 ls (zG.set hW hj hP1 hD1) hS1 hL)
theorem z_new (C : zCx K D cl A tys F rm cc own nm Ts nL ret) {cn : String} {T : u_T} {N ci index : Nat} (hin : ∀ w ∈ u_ws cn T N, w ∈ Ts) (ty : Nat → FieldType) (hty : ∀ k, k < N → parseFieldDescriptor (T k).2.2.1 = some (ty k)) (hcl : Cond.classLink own index cn ∈ Ts) (hinst : Cond.instantiable cn N ∈ Ts) (hini : Cond.initialized cn ∈ Ts) (hc : cl[ci]? = some (cn, T, N)) {fs : List Value} (hfs : ∀ j, j < N → defaultValue (ty j) = vp_V fs j) (hcs : cells + 1 ≤ rm.cells) (hss : slots + N ≤ rm.slots) (hd : decode cc pc = .ok (.new index, 3)) (kk : ∀ q : Nat, (∀ (b : Nat) (x : va_E), σ b = some x → b ≠ q) → zJ K D cl A nL Q (cells + 1) (slots + N) (zput σ q (ob ci fs)) (pc + 3) (lv) (.ref q :: st)) : zJ K D cl A nL Q (cells) (slots) (σ) (pc) (lv) (st) := by
  obtain ⟨p, l, e, R, s, m, args, below, meth, c⟩ := K
  intro H locs ls hG hS hL
  obtain ⟨ws, hP, hD, hW⟩ := id hG
  have hR : R = rm := C.2.2.2.2.2.2.2.2.2.2.1
  refine va_new C.1 C.2.1 C.2.2.2.2.1 hin ty hty C.2.2.2.1 (C.2.2.2.2.1 _ hcl) (C.2.2.2.2.1 _ hinst) (C.2.2.2.2.1 _ hini) C.2.2.2.2.2.2.2.1 hP hD hS C.2.2.2.2.2.2.2.2.1 hc hfs (by rw [hR]; exact hcs) (by rw [hR]; exact hss) hd (fun q H1 hP1 hD1 hS1 => ?_)
  obtain ⟨g1, g2⟩ := zG.push hW hP1 hD1
  exact kk q g2 H1 locs ls g1 hS1 hL
theorem z_newi (C : zCx K D cl A tys F rm cc own nm Ts nL ret) {atype : ArrayType} {cA : ClassId} {i : Int} (t0 : Nat) (ht : tys[t0]? = some (cA, .int)) (harr : Cond.arrayClass .int ∈ Ts) (hty : newarray.typeOf atype = .int) (n : Nat) (hi : i = (n : Int)) (hn : n ≤ 1000000) (hcs : cells + 1 ≤ rm.cells) (hss : slots + n ≤ rm.slots) (hd : decode cc pc = .ok (.newarray atype, 2)) (kk : ∀ q : Nat, (∀ (b : Nat) (x : va_E), σ b = some x → b ≠ q) → zJ K D cl A nL Q (cells + 1) (slots + n) (zput σ q (ia cA n (fun _ => 0))) (pc + 2) (lv) (.ref q :: st)) : zJ K D cl A nL Q (cells) (slots) (σ) (pc) (lv) (iv i :: st) := by
  obtain ⟨p, l, e, R, s, m, args, below, meth, c⟩ := K
  intro H locs ls hG hS hL
  obtain ⟨ws, hP, hD, hW⟩ := id hG
  have hR : R = rm := C.2.2.2.2.2.2.2.2.2.2.1
  have hK := C.2.2.2.2.2.2.2.1
  refine va_newa (N' := n) (a0 := (n, .inl (fun _ => 0))) C.1 C.2.1 (by rw [hty]; exact C.2.2.2.2.1 _ harr) hty hK hP hD hS C.2.2.2.2.2.2.2.2.1 (fun cA => rfl) ?_ (zidx hi (by omega)) ?_ (by rw [hR]; exact hcs) (by rw [hR]; exact hss) hd (fun q cB H1 hK1 hP1 hD1 hS1 => ?_)
  · rw [← z32_0, z32_lt (by omega) (by omega)]; omega
  · have : componentBytes FieldType.int ≤ 8 := by decide
    exact Nat.le_trans (Nat.mul_le_mul hn this) (by decide)
  · have e1 := (hK.2 t0 _ ht).2
    have e2 := (hK1.2 tys.length (cB, .int) (by simp)).2
    have e3 : cB = cA := by
      have e4 : s.vm.findClass ("[" ++ (FieldType.int).toString) = some cA := e1
      have e5 : s.vm.findClass ("[" ++ (FieldType.int).toString) = some cB := e2
      exact Option.some.inj (e5.symm.trans e4)
    subst e3
    obtain ⟨g1, g2⟩ := zG.push hW hP1 hD1
    exact kk q g2 H1 locs ls g1 hS1 hL
theorem z_newz (C : zCx K D cl A tys F rm cc own nm Ts nL ret) {atype : ArrayType} {cA : ClassId} {i : Int} (t0 : Nat) (ht : tys[t0]? = some (cA, .boolean)) (harr : Cond.arrayClass .boolean ∈ Ts) (hty : newarray.typeOf atype = .boolean) (n : Nat) (hi : i = (n : Int)) (hn : n ≤ 1000000) (hcs : cells + 1 ≤ rm.cells) (hss : slots + n ≤ rm.slots) (hd : decode cc pc = .ok (.newarray atype, 2)) (kk : ∀ q : Nat, (∀ (b : Nat) (x : va_E), σ b = some x → b ≠ q) → zJ K D cl A nL Q (cells + 1) (slots + n) (zput σ q (ia cA n (fun _ => 0))) (pc + 2) (lv) (.ref q :: st)) : zJ K D cl A nL Q (cells) (slots) (σ) (pc) (lv) (iv i :: st) := by
  obtain ⟨p, l, e, R, s, m, args, below, meth, c⟩ := K
  intro H locs ls hG hS hL
  obtain ⟨ws, hP, hD, hW⟩ := id hG
  have hR : R = rm := C.2.2.2.2.2.2.2.2.2.2.1
  have hK := C.2.2.2.2.2.2.2.1
  refine va_newa (N' := n) (a0 := (n, .inl (fun _ => 0))) C.1 C.2.1 (by rw [hty]; exact C.2.2.2.2.1 _ harr) hty hK hP hD hS C.2.2.2.2.2.2.2.2.1 (fun cA => rfl) ?_ (zidx hi (by omega)) ?_ (by rw [hR]; exact hcs) (by rw [hR]; exact hss) hd (fun q cB H1 hK1 hP1 hD1 hS1 => ?_)
  · rw [← z32_0, z32_lt (by omega) (by omega)]; omega
  · have : componentBytes FieldType.boolean ≤ 8 := by decide
    exact Nat.le_trans (Nat.mul_le_mul hn this) (by decide)
  · have e1 := (hK.2 t0 _ ht).2
    have e2 := (hK1.2 tys.length (cB, .boolean) (by simp)).2
    have e3 : cB = cA := by
      have e4 : s.vm.findClass ("[" ++ (FieldType.boolean).toString) = some cA := e1
      have e5 : s.vm.findClass ("[" ++ (FieldType.boolean).toString) = some cB := e2
      exact Option.some.inj (e5.symm.trans e4)
    subst e3
    obtain ⟨g1, g2⟩ := zG.push hW hP1 hD1
    exact kk q g2 H1 locs ls g1 hS1 hL
theorem z_newl (C : zCx K D cl A tys F rm cc own nm Ts nL ret) {atype : ArrayType} {cA : ClassId} {i : Int} (t0 : Nat) (ht : tys[t0]? = some (cA, .long)) (harr : Cond.arrayClass .long ∈ Ts) (hty : newarray.typeOf atype = .long) (n : Nat) (hi : i = (n : Int)) (hn : n ≤ 1000000) (hcs : cells + 1 ≤ rm.cells) (hss : slots + n ≤ rm.slots) (hd : decode cc pc = .ok (.newarray atype, 2)) (kk : ∀ q : Nat, (∀ (b : Nat) (x : va_E), σ b = some x → b ≠ q) → zJ K D cl A nL Q (cells + 1) (slots + n) (zput σ q (la cA n (fun _ => 0))) (pc + 2) (lv) (.ref q :: st)) : zJ K D cl A nL Q (cells) (slots) (σ) (pc) (lv) (iv i :: st) := by
  obtain ⟨p, l, e, R, s, m, args, below, meth, c⟩ := K
  intro H locs ls hG hS hL
  obtain ⟨ws, hP, hD, hW⟩ := id hG
  have hR : R = rm := C.2.2.2.2.2.2.2.2.2.2.1
  have hK := C.2.2.2.2.2.2.2.1
  refine va_newa (N' := n) (a0 := (n, .inr (.inl (fun _ => 0)))) C.1 C.2.1 (by rw [hty]; exact C.2.2.2.2.1 _ harr) hty hK hP hD hS C.2.2.2.2.2.2.2.2.1 (fun cA => rfl) ?_ (zidx hi (by omega)) ?_ (by rw [hR]; exact hcs) (by rw [hR]; exact hss) hd (fun q cB H1 hK1 hP1 hD1 hS1 => ?_)
  · rw [← z32_0, z32_lt (by omega) (by omega)]; omega
  · have : componentBytes FieldType.long ≤ 8 := by decide
    exact Nat.le_trans (Nat.mul_le_mul hn this) (by decide)
  · have e1 := (hK.2 t0 _ ht).2
    have e2 := (hK1.2 tys.length (cB, .long) (by simp)).2
    have e3 : cB = cA := by
      have e4 : s.vm.findClass ("[" ++ (FieldType.long).toString) = some cA := e1
      have e5 : s.vm.findClass ("[" ++ (FieldType.long).toString) = some cB := e2
      exact Option.some.inj (e5.symm.trans e4)
    subst e3
    obtain ⟨g1, g2⟩ := zG.push hW hP1 hD1
    exact kk q g2 H1 locs ls g1 hS1 hL
theorem z_newa (C : zCx K D cl A tys F rm cc own nm Ts nL ret) {cA : ClassId} {cn : String} {i : Int} {index : Nat} (t0 : Nat) (ht : tys[t0]? = some (cA, .object cn)) (hcl : Cond.classLink own index cn ∈ Ts) (hov : ∀ s : State, F s → va_AO cn s) (n : Nat) (hi : i = (n : Int)) (hn : n ≤ 1000000) (hcs : cells + 1 ≤ rm.cells) (hss : slots + n ≤ rm.slots) (hd : decode cc pc = .ok (.anewarray index, 3)) (kk : ∀ q : Nat, (∀ (b : Nat) (x : va_E), σ b = some x → b ≠ q) → zJ K D cl A nL Q (cells + 1) (slots + n) (zput σ q (ra cA n (fun _ => none))) (pc + 3) (lv) (.ref q :: st)) : zJ K D cl A nL Q (cells) (slots) (σ) (pc) (lv) (iv i :: st) := by
  obtain ⟨p, l, e, R, s, m, args, below, meth, c⟩ := K
  intro H locs ls hG hS hL
  obtain ⟨ws, hP, hD, hW⟩ := id hG
  have hR : R = rm := C.2.2.2.2.2.2.2.2.2.2.1
  have hK := C.2.2.2.2.2.2.2.1
  refine va_newq (N' := n) C.1 C.2.1 C.2.2.2.1 (C.2.2.2.2.1 _ hcl) (hov s C.2.2.2.2.2.2.2.2.2.1) hK hP hD hS C.2.2.2.2.2.2.2.2.1 ?_ (zidx hi (by omega)) (by omega) (by rw [hR]; exact hcs) (by rw [hR]; exact hss) hd (fun q cB H1 hK1 hP1 hD1 hS1 => ?_)
  · rw [← z32_0, z32_lt (by omega) (by omega)]; omega
  · obtain ⟨k1, m1, a1, a2, a3, a4⟩ := (hK.2 t0 _ ht).2
    obtain ⟨k2, m2, b1, b2, b3, b4⟩ := (hK1.2 tys.length (cB, .object cn) (by simp)).2
    have e3 : cB = cA := Option.some.inj (b4.symm.trans a4)
    subst e3
    obtain ⟨g1, g2⟩ := zG.push hW hP1 hD1
    exact kk q g2 H1 locs ls g1 hS1 hL
theorem z_gets (C : zCx K D cl A tys F rm cc own nm Ts nL ret) {cn n d : String} {v : Value} {index : Nat} (hZ : ∀ s : State, F s → va_Z cn n d v A s s.heap) (hl : Cond.fieldLink own index cn n d ∈ Ts) (hd : decode cc pc = .ok (.getstatic index, 3)) (kk : zJ K D cl A nL Q (cells) (slots) (σ) (pc + 3) (lv) (v :: st)) : zJ K D cl A nL Q (cells) (slots) (σ) (pc) (lv) (st) := by
  obtain ⟨p, l, e, R, s, m, args, below, meth, c⟩ := K
  intro H locs ls hG hS hL
  exact va_gets C.1 C.2.1 (hZ s C.2.2.2.2.2.2.2.2.2.1) hS C.2.2.2.1 (C.2.2.2.2.1 _ hl) (fun _ h => h) hd (kk H locs ls hG hS hL)
theorem z_oinit (C : zCx K D cl A tys F rm cc own nm Ts nL ret) {idx a : Nat} (h1 : Cond.methodLink own idx objectInit ∈ Ts) (h2 : Cond.instanceMethod objectInit ∈ Ts) (h3 : Cond.code objectInit ⟨#[0xb1]⟩ 1 none ∈ Ts) (hd : decode cc pc = .ok (.invokespecial idx, 3)) (hf : 1 ≤ rm.frames) (hlo : 20 ≤ rm.locals) (hw : (st.map fun v => v.category).sum ≤ 8) (kk : zJ K D cl A nL Q (cells) (slots) (σ) (pc + 3) (lv) (st)) : zJ K D cl A nL Q (cells) (slots) (σ) (pc) (lv) (.ref a :: st) := by
  obtain ⟨p, l, e, R, s, m, args, below, meth, c⟩ := K
  intro H locs ls hG hS hL
  have hR : R = rm := C.2.2.2.2.2.2.2.2.2.2.1
  have hml : c.maxLocals = nL := C.2.2.1
  have hz := lv_room (m := m) (pc := pc) (ls := ls) (rest := Value.ref a :: st) hw
  refine W.objInit C.1 C.2.1 C.2.2.2.1 (C.2.2.2.2.1 _ h1) (C.2.2.2.2.1 _ h2) (C.2.2.2.2.1 _ h3) rfl (by rw [hml]; exact hL.1) rfl hd (by rw [hR]; exact hf) (by rw [hR]; omega) ?_
  exact kk H locs ls hG hS hL
theorem z_copyl (C : zCx K D cl A tys F rm cc own nm Ts nL ret) {index a0 a : Nat} {c0 c1 : ClassId} {n0 n1 : Nat} {f g : Nat → Int} {sp dp n : Int} (t0 t1 : Nat) (hl1 : Cond.methodLink own index arraycopyName ∈ Ts) (hl2 : Cond.native arraycopyName ∈ Ts) (hl3 : Cond.static arraycopyName ∈ Ts) (hl4 : Cond.initialized "java/lang/System" ∈ Ts) (ht0 : tys[t0]? = some (c0, .long)) (ht1 : tys[t1]? = some (c1, .long)) (h0 : σ a0 = some (la c0 n0 f)) (h : σ a = some (la c1 n1 g)) (x y z : Nat) (hx : sp = (x : Int)) (hy : dp = (y : Int)) (hz : n = (z : Int)) (hxy : x + z ≤ n0 ∧ y + z ≤ n1 ∧ n0 ≤ 100000 ∧ n1 ≤ 100000) (hfr : 1 ≤ rm.frames) (hlo : (st.map fun v => v.category).sum + (nativeFrameWords "java/lang/System" "arraycopy" 5 + 11) ≤ rm.locals) (hd : decode cc pc = .ok (.invokestatic index, 3)) (kk : zJ K D cl A nL Q (cells) (slots) (zput σ a (la c1 n1 (va_cpy f g x y z))) (pc + 3) (lv) (st)) : zJ K D cl A nL Q (cells) (slots) (σ) (pc) (lv) (iv n :: iv dp :: .ref a :: iv sp :: .ref a0 :: st) := by
  obtain ⟨p, l, e, R, s, m, args, below, meth, c⟩ := K
  intro H locs ls hG hS hL
  obtain ⟨ws, hP, hD, hW⟩ := id hG
  obtain ⟨j, hj⟩ := hW a _ h
  obtain ⟨j0, hj0⟩ := hW a0 _ h0
  have hR : R = rm := C.2.2.2.2.2.2.2.2.2.2.1
  have hml : c.maxLocals = nL := C.2.2.1
  have neg : ∀ {v : Int} {w : Nat}, v = (w : Int) → w ≤ 100000 → ¬ Int32.ofInt v < 0 := fun {v w} e1 e2 => by rw [← z32_0, z32_lt (by omega) (by omega)]; omega
  refine va_copyl C.1 C.2.1 (by rw [hml]; exact hL.1.symm) C.2.2.2.1 (C.2.2.2.2.1 _ hl1) (C.2.2.2.2.1 _ hl2) (C.2.2.2.2.1 _ hl3) (C.2.2.2.2.1 _ hl4) C.2.2.2.2.2.2.2.1 hP hD hS j0 j t0 t1 hj0 hj ht0 ht1 rfl (neg hx (by omega)) (neg hy (by omega)) (neg hz (by omega)) (by rw [zidx hx (by omega), zidx hz (by omega)]; exact hxy.1) (by rw [zidx hy (by omega), zidx hz (by omega)]; exact hxy.2.1) (fun i _ => rfl) (by rw [hR]; exact hfr) (by rw [hR]; exact hlo) hd (fun H1 locs1 hP1 hD1 hS1 => ?_)
  rw [zidx hx (by omega), zidx hy (by omega), zidx hz (by omega)] at hP1 hD1
  have e9 : va_cpy (fun j => Int64.ofInt (f j)) (fun j => Int64.ofInt (g j)) x y z = fun j => Int64.ofInt (va_cpy f g x y z j) := by
    funext q
    unfold va_cpy
    split <;> rfl
  rw [e9] at hP1 hD1
  exact kk H1 locs1 ls (zG.set hW hj hP1 hD1) hS1 hL
/-- behind a call -/
theorem z_run {post : Option Value → zh → Prop} {mc ms : Nat} {p : Program} {l : Launch} {e : Env} {R : Room} {s : State} {m : MethodId} {args : Array Value} {below : List Frame} {meth : Method} {c : Code} {H : Heap} {locs : List Loc} {ls : Array Slot} {st0 rest : List Value} {a : Array Value}
    (hS : va_S A s.heap H locs) (hL : zL ls nL lv) (hr : va_Run p l e R s m args below meth c H locs cells slots mc ms (F0 m pc ls st0) rest (zQc D cl A post a) A)
    (kk : ∀ (r : Option Value) (σ' : zh), post r σ' → zJ (p, l, e, R, s, m, args, below, meth, c) D cl A nL Q (cells + mc) (slots + ms) σ' (pc + 3) lv (r.toList ++ rest)) : W p l e R s m args below meth c H locs cells slots Q (F0 m pc ls st0) := by
  intro T hT X
  obtain ⟨v, st₀, t, T', L, h0, X', hL', e1, e2, ⟨⟨r, σ', hv, hp, hg⟩, hz, hk⟩, go⟩ := hr T hT X
  cases hv
  rw [h0] at hz hk
  obtain ⟨t2, a1, b1⟩ := kk v σ' hp T'.heap (locs ++ L) ls (by rw [e1]; exact hg)
    ⟨Nat.le_trans hS.1 (by rw [e1]; exact hz), fun q h1 h2 => by rw [e1, hk q (Nat.lt_of_lt_of_le h1 hS.1) h2]; exact hS.2.1 q h1 h2, fun q hq => by
      rcases List.mem_append.mp hq with h | h
      · exact hS.2.2 q h
      · exact hL' q h⟩ hL T' rfl X'
  exact ⟨t2, go t2 a1, b1⟩
theorem zPc_ok {s : State} {H : Heap} {locs : List Loc} {vals : List Value} (hF : zFok F A) (hA : ∀ q, s.heap.size ≤ q → A q) (hK : va_K D cl tys s) (hFs : F s) (hG : zG D cl A σ H) (hS : va_S A s.heap H locs) : PreS s H (zPc D cl A tys F vals σ) vals := by
  refine ⟨fun a U g mk q => ?_, fun U hU hW => ?_⟩
  · obtain ⟨q0, q1, q2, q3, q4⟩ := q
    exact ⟨q0, q1, va_K.moved (u := U) (U := U.calling g mk a) (Vm.Alike.refl U.vm) q2, hF.1 U g mk a q3, q4⟩
  · subst hU
    exact ⟨rfl, fun q h => hA q (Nat.le_trans hS.1 h), va_K.moved hW.alike hK, hF.2 s U hW hS.1 hS.2.1 hFs, hG⟩
theorem z_callS (C : zCx K D cl A tys F rm cc own nm Ts nL ret)  {l : Launch} {y : MethodName} {ws ws' : List Cond} {rm2 : Room} {As : List Value} {post : Option Value → zh → Prop} {bytes : ByteArray} {maxL index n : Nat} {ret2 : Option FieldType} (hKl : K.2.1 = l) (hM : zM l D cl A tys F y ws rm2 As σ post) (hG0 : GoodIn Ts ws) (hw : ws = Cond.code y bytes maxL ret2 :: ws') (hli : Cond.methodLink own index y ∈ Ts) (hsta : Cond.static y ∈ Ts) (hini : Cond.initialized y.cls ∈ Ts) (hd0 : y.cls ≠ "java/lang/invoke/MethodHandle" ∧ y.cls ≠ "java/lang/invoke/VarHandle" ∧ (parseMethodDescriptor y.desc).map (fun d => d.parameters.length) = some n) (hR2 : rm2.frames + 1 ≤ rm.frames ∧ 8 + (maxL + 11) + rm2.locals ≤ rm.locals) (hn : As.length = n) (hst : (st.map fun v => v.category).sum ≤ 8) (hf : cells + rm2.cells ≤ rm.cells ∧ slots + rm2.slots ≤ rm.slots) (hd : decode cc pc = .ok (.invokestatic index, 3)) (kk : ∀ (r : Option Value) (σ' : zh), post r σ' → zJ K D cl A nL Q (cells + rm2.cells) (slots + rm2.slots) (σ') (pc + 3) (lv) (r.toList ++ st)) : zJ K D cl A nL Q (cells) (slots) (σ) (pc) (lv) (As.reverse ++ st) := by
  obtain ⟨p, l, e, R, s, m, args, below, meth, c⟩ := K
  intro H locs ls hG hS hL
  have hR : R = rm := C.2.2.2.2.2.2.2.2.2.2.1
  have hml : c.maxLocals = nL := C.2.2.1
  subst hKl
  have hF : zFok F A := C.2.2.2.2.2.2.2.2.2.2.2.1
  have hp := fun vals => zPc_ok (vals := vals) hF C.2.2.2.2.2.2.2.2.1 C.2.2.2.2.2.2.2.1 C.2.2.2.2.2.2.2.2.2.1 hG hS
  refine z_run hS hL (va_runS (As := As) (rest := st) ⟨C.1, C.2.1, hml, C.2.2.2.1, C.2.2.2.2.1⟩ hM ⟨callB_of n C.2.2.2.2.1 hG0 hw rfl rfl (C.2.2.2.2.1 _ hini) (C.2.2.2.2.1 _ hli) hd0 (by rw [hR]; exact hR2), C.2.2.2.2.1 _ hsta⟩ (hp As) rfl hn hL.1 rfl (lv_room hst) hd (by rw [hR]; exact hf)) kk
theorem z_callV (C : zCx K D cl A tys F rm cc own nm Ts nL ret)  {l : Launch} {y : MethodName} {ws ws' : List Cond} {rm2 : Room} {As : List Value} {post : Option Value → zh → Prop} {bytes : ByteArray} {maxL index n : Nat} {ret2 : Option FieldType} (hKl : K.2.1 = l) {b : Nat} (hM : zM l D cl A tys F y ws rm2 (.ref b :: As) σ post) (hG0 : GoodIn Ts ws) (hw : ws = Cond.code y bytes maxL ret2 :: ws') {ci : Nat} {cn : String} {T : u_T} {N : Nat} {fs : List Value} (hb : σ b = some (ob ci fs)) (hc : cl[ci]? = some (cn, T, N)) (hli : Cond.methodLink own index y ∈ Ts) (hins : Cond.instanceMethod y ∈ Ts) (hsel : Cond.selects cn y y ∈ Ts) (hini : Cond.initialized y.cls ∈ Ts) (hd0 : y.cls ≠ "java/lang/invoke/MethodHandle" ∧ y.cls ≠ "java/lang/invoke/VarHandle" ∧ (parseMethodDescriptor y.desc).map (fun d => d.parameters.length) = some n) (hR2 : rm2.frames + 1 ≤ rm.frames ∧ 8 + (maxL + 11) + rm2.locals ≤ rm.locals) (hn : As.length = n) (hst : (st.map fun v => v.category).sum ≤ 8) (hf : cells + rm2.cells ≤ rm.cells ∧ slots + rm2.slots ≤ rm.slots) (hd : decode cc pc = .ok (.invokevirtual index, 3)) (kk : ∀ (r : Option Value) (σ' : zh), post r σ' → zJ K D cl A nL Q (cells + rm2.cells) (slots + rm2.slots) (σ') (pc + 3) (lv) (r.toList ++ st)) : zJ K D cl A nL Q (cells) (slots) (σ) (pc) (lv) (As.reverse ++ .ref b :: st) := by
  obtain ⟨p, l, e, R, s, m, args, below, meth, c⟩ := K
  intro H locs ls hG hS hL
  have hR : R = rm := C.2.2.2.2.2.2.2.2.2.2.1
  have hml : c.maxLocals = nL := C.2.2.1
  subst hKl
  have hF : zFok F A := C.2.2.2.2.2.2.2.2.2.2.2.1
  have hp := fun vals => zPc_ok (vals := vals) hF C.2.2.2.2.2.2.2.2.1 C.2.2.2.2.2.2.2.1 C.2.2.2.2.2.2.2.2.2.1 hG hS
  have hrc : ∃ cellB : Cell, H[b]? = some cellB ∧ cellB.vm.isStatics = false ∧ s.vm.findClass cn = some cellB.cls := by
    obtain ⟨ws0, hP, hD, hW⟩ := hG
    obtain ⟨j, hj⟩ := hW b _ hb
    exact va_recv C.2.2.2.2.2.2.2.1 hP hc hj
  refine z_run hS hL (va_runV (C := cn) (As := As) (rest := st) ⟨C.1, C.2.1, hml, C.2.2.2.1, C.2.2.2.2.1⟩ hM ⟨callB_of n C.2.2.2.2.1 hG0 hw rfl rfl (C.2.2.2.2.1 _ hini) (C.2.2.2.2.1 _ hli) hd0 (by rw [hR]; exact hR2), C.2.2.2.2.1 _ hins, C.2.2.2.2.1 _ hsel⟩ ⟨(hp (.ref b :: As)).1, hrc, (hp (.ref b :: As)).2⟩ rfl hn hL.1 rfl (lv_room hst) hd (by rw [hR]; exact hf)) kk
theorem z_callI (C : zCx K D cl A tys F rm cc own nm Ts nL ret)  {l : Launch} {y : MethodName} {ws ws' : List Cond} {rm2 : Room} {As : List Value} {post : Option Value → zh → Prop} {bytes : ByteArray} {maxL index n : Nat} {ret2 : Option FieldType} (hKl : K.2.1 = l) {b : Nat} (hM : zM l D cl A tys F y ws rm2 (.ref b :: As) σ post) (hG0 : GoodIn Ts ws) (hw : ws = Cond.code y bytes maxL none :: ws') (hli : Cond.methodLink own index y ∈ Ts) (hins : Cond.instanceMethod y ∈ Ts) (hini : Cond.initialized y.cls ∈ Ts) (hnm : y.name = "<init>") (hd0 : y.cls ≠ "java/lang/invoke/MethodHandle" ∧ y.cls ≠ "java/lang/invoke/VarHandle" ∧ (parseMethodDescriptor y.desc).map (fun d => d.parameters.length) = some n) (hR2 : rm2.frames + 1 ≤ rm.frames ∧ 8 + (maxL + 11) + rm2.locals ≤ rm.locals) (hn : As.length = n) (hst : (st.map fun v => v.category).sum ≤ 8) (hf : cells + rm2.cells ≤ rm.cells ∧ slots + rm2.slots ≤ rm.slots) (hd : decode cc pc = .ok (.invokespecial index, 3)) (kk : ∀ (r : Option Value) (σ' : zh), post r σ' → zJ K D cl A nL Q (cells + rm2.cells) (slots + rm2.slots) (σ') (pc + 3) (lv) (r.toList ++ st)) : zJ K D cl A nL Q (cells) (slots) (σ) (pc) (lv) (As.reverse ++ .ref b :: st) := by
  obtain ⟨p, l, e, R, s, m, args, below, meth, c⟩ := K
  intro H locs ls hG hS hL
  have hR : R = rm := C.2.2.2.2.2.2.2.2.2.2.1
  have hml : c.maxLocals = nL := C.2.2.1
  subst hKl
  have hF : zFok F A := C.2.2.2.2.2.2.2.2.2.2.2.1
  have hp := fun vals => zPc_ok (vals := vals) hF C.2.2.2.2.2.2.2.2.1 C.2.2.2.2.2.2.2.1 C.2.2.2.2.2.2.2.2.2.1 hG hS
  refine z_run hS hL (va_runI (As := As) (rest := st) ⟨C.1, C.2.1, hml, C.2.2.2.1, C.2.2.2.2.1⟩ hM ⟨callB_of n C.2.2.2.2.1 hG0 hw rfl rfl (C.2.2.2.2.1 _ hini) (C.2.2.2.2.1 _ hli) hd0 (by rw [hR]; exact hR2), hnm, C.2.2.2.2.1 _ hins⟩ (hp (.ref b :: As)) rfl hn hL.1 rfl (lv_room hst) hd (by rw [hR]; exact hf)) kk
theorem z_callVN (C : zCx K D cl A tys F rm cc own nm Ts nL ret)  {l : Launch} {y : MethodName} {ws ws' : List Cond} {rm2 : Room} {As : List Value} {post : Option Value → zh → Prop} {bytes : ByteArray} {maxL index n : Nat} {ret2 : Option FieldType} (hKl : K.2.1 = l) {b : Nat} (hM : zM l D cl A tys F y ws rm2 (.ref b :: As) σ post) (hG0 : GoodIn Ts ws) (hw : ws = Cond.code y bytes maxL ret2 :: ws') {ci : Nat} {cn : String} {T : u_T} {N : Nat} {fs : List Value} (hb : σ b = some (ob ci fs)) (hc : cl[ci]? = some (cn, T, N)) {host : String} (hli : ∀ s : State, F s → va_Nw (.methodLinkNest own index y host) s) (hins : Cond.instanceMethod y ∈ Ts) (hsel : Cond.selects cn y y ∈ Ts) (hini : Cond.initialized y.cls ∈ Ts) (hd0 : y.cls ≠ "java/lang/invoke/MethodHandle" ∧ y.cls ≠ "java/lang/invoke/VarHandle" ∧ (parseMethodDescriptor y.desc).map (fun d => d.parameters.length) = some n) (hR2 : rm2.frames + 1 ≤ rm.frames ∧ 8 + (maxL + 11) + rm2.locals ≤ rm.locals) (hn : As.length = n) (hst : (st.map fun v => v.category).sum ≤ 8) (hf : cells + rm2.cells ≤ rm.cells ∧ slots + rm2.slots ≤ rm.slots) (hd : decode cc pc = .ok (.invokevirtual index, 3)) (kk : ∀ (r : Option Value) (σ' : zh), post r σ' → zJ K D cl A nL Q (cells + rm2.cells) (slots + rm2.slots) (σ') (pc + 3) (lv) (r.toList ++ st)) : zJ K D cl A nL Q (cells) (slots) (σ) (pc) (lv) (As.reverse ++ .ref b :: st) := by
  obtain ⟨p, l, e, R, s, m, args, below, meth, c⟩ := K
  intro H locs ls hG hS hL
  have hR : R = rm := C.2.2.2.2.2.2.2.2.2.2.1
  have hml : c.maxLocals = nL := C.2.2.1
  subst hKl
  have hF : zFok F A := C.2.2.2.2.2.2.2.2.2.2.2.1
  have hp := fun vals => zPc_ok (vals := vals) hF C.2.2.2.2.2.2.2.2.1 C.2.2.2.2.2.2.2.1 C.2.2.2.2.2.2.2.2.2.1 hG hS
  have hrc : ∃ cellB : Cell, H[b]? = some cellB ∧ cellB.vm.isStatics = false ∧ s.vm.findClass cn = some cellB.cls := by
    obtain ⟨ws0, hP, hD, hW⟩ := hG
    obtain ⟨j, hj⟩ := hW b _ hb
    exact va_recv C.2.2.2.2.2.2.2.1 hP hc hj
  refine z_run hS hL (va_runVN (C := cn) (host := host) (As := As) (rest := st) ⟨C.1, C.2.1, hml, C.2.2.2.1, C.2.2.2.2.1⟩ hM ⟨va_cnB n C.2.2.2.2.1 hG0 hw rfl rfl (hli s C.2.2.2.2.2.2.2.2.2.1) (C.2.2.2.2.1 _ hini) hd0 (by rw [hR]; exact hR2), C.2.2.2.2.1 _ hins, C.2.2.2.2.1 _ hsel⟩ ⟨(hp (.ref b :: As)).1, hrc, (hp (.ref b :: As)).2⟩ rfl hn hL.1 rfl (lv_room hst) hd (by rw [hR]; exact hf)) kk
theorem z_callIN (C : zCx K D cl A tys F rm cc own nm Ts nL ret)  {l : Launch} {y : MethodName} {ws ws' : List Cond} {rm2 : Room} {As : List Value} {post : Option Value → zh → Prop} {bytes : ByteArray} {maxL index n : Nat} {ret2 : Option FieldType} (hKl : K.2.1 = l) {b : Nat} (hM : zM l D cl A tys F y ws rm2 (.ref b :: As) σ post) (hG0 : GoodIn Ts ws) (hw : ws = Cond.code y bytes maxL none :: ws') {host : String} (hli : ∀ s : State, F s → va_Nw (.methodLinkNest own index y host) s) (hins : Cond.instanceMethod y ∈ Ts) (hini : Cond.initialized y.cls ∈ Ts) (hnm : y.name = "<init>") (hd0 : y.cls ≠ "java/lang/invoke/MethodHandle" ∧ y.cls ≠ "java/lang/invoke/VarHandle" ∧ (parseMethodDescriptor y.desc).map (fun d => d.parameters.length) = some n) (hR2 : rm2.frames + 1 ≤ rm.frames ∧ 8 + (maxL + 11) + rm2.locals ≤ rm.locals) (hn : As.length = n) (hst : (st.map fun v => v.category).sum ≤ 8) (hf : cells + rm2.cells ≤ rm.cells ∧ slots + rm2.slots ≤ rm.slots) (hd : decode cc pc = .ok (.invokespecial index, 3)) (kk : ∀ (r : Option Value) (σ' : zh), post r σ' → zJ K D cl A nL Q (cells + rm2.cells) (slots + rm2.slots) (σ') (pc + 3) (lv) (r.toList ++ st)) : zJ K D cl A nL Q (cells) (slots) (σ) (pc) (lv) (As.reverse ++ .ref b :: st) := by
  obtain ⟨p, l, e, R, s, m, args, below, meth, c⟩ := K
  intro H locs ls hG hS hL
  have hR : R = rm := C.2.2.2.2.2.2.2.2.2.2.1
  have hml : c.maxLocals = nL := C.2.2.1
  subst hKl
  have hF : zFok F A := C.2.2.2.2.2.2.2.2.2.2.2.1
  have hp := fun vals => zPc_ok (vals := vals) hF C.2.2.2.2.2.2.2.2.1 C.2.2.2.2.2.2.2.1 C.2.2.2.2.2.2.2.2.2.1 hG hS
  refine z_run hS hL (va_runIN (host := host) (As := As) (rest := st) ⟨C.1, C.2.1, hml, C.2.2.2.1, C.2.2.2.2.1⟩ hM ⟨va_cnB n C.2.2.2.2.1 hG0 hw rfl rfl (hli s C.2.2.2.2.2.2.2.2.2.1) (C.2.2.2.2.1 _ hini) hd0 (by rw [hR]; exact hR2), hnm, C.2.2.2.2.1 _ hins⟩ (hp (.ref b :: As)) rfl hn hL.1 rfl (lv_room hst) hd (by rw [hR]; exact hf)) kk
end ZS
end
section
/-! THE STATE, own words: st f i is place i of the f-th field of the reference (scalars at place 0):
0 parent 1 injectors 2 bufKey 3 bufLazy 4 buffered 5 kind 6 number 7 scope 8 needs 9 needKey 10 needLazy 11 single 12 request 13 oldSingle 14 oldRequest 15 open 16 iKey 17 iInjector 18 iScope 19 iNeeds 20 iNeedKey 21 iLazy 22 iValue 23 made 24 pile 25 got 26 values 27 top -/
abbrev St : Type := Nat → Nat → Int
def sup (st : St) (f i : Nat) (v : Int) : St := fun g => if g = f then iup (st f) i v else st g
theorem sup_s (st : St) (f i : Nat) (v : Int) : sup st f i v f = iup (st f) i v := by simp [sup]
theorem sup_n {st : St} {f i g : Nat} {v : Int} (h : g ≠ f) : sup st f i v g = st g := by simp [sup, h]
def cpn (g : Nat → Int) (b n : Nat) (h : Nat → Int) : Nat → Int := fun j => if b ≤ j ∧ j < b + n then h (j - b) else g j
theorem cpn_in {g h : Nat → Int} {b n j : Nat} (h1 : b ≤ j) (h2 : j < b + n) : cpn g b n h j = h (j - b) := by simp [cpn, h1, h2]
theorem cpn_out {g h : Nat → Int} {b n j : Nat} (h1 : j < b ∨ b + n ≤ j) : cpn g b n h j = g j := by
  unfold cpn
  rw [if_neg (by omega)]
theorem cpn_0 {g h : Nat → Int} {b : Nat} : cpn g b 0 h = g := by
  funext j
  exact cpn_out (by omega)
theorem cpn_1 {g h : Nat → Int} {b n : Nat} : iup (cpn g b n h) (b + n) (h n) = cpn g b (n + 1) h := by
  funext j
  by_cases e : j = b + n
  · subst e
    rw [iup_s, cpn_in (by omega) (by omega), show b + n - b = n by omega]
  · rw [iup_n e]
    by_cases q : b ≤ j ∧ j < b + n
    · rw [cpn_in q.1 q.2, cpn_in q.1 (by omega)]
    · rw [cpn_out (by omega), cpn_out (by omega)]
theorem cpn_congr {g h h' : Nat → Int} {b n : Nat} (e : ∀ k, k < n → h k = h' k) : cpn g b n h = cpn g b n h' := by
  funext j
  by_cases q : b ≤ j ∧ j < b + n
  · rw [cpn_in q.1 q.2, cpn_in q.1 q.2]; exact e _ (by omega)
  · rw [cpn_out (by omega), cpn_out (by omega)]
/-- the pair that is seen, or -1 -/
def snf (st : St) (key : Nat) : Nat → Int → Int
  | 0, _ => -1
  | n + 1, i => if i < 0 then -1 else if st 5 (12 * i.toNat + key) ≠ 0 then 12 * i + key else snf st key n (st 0 i.toNat)
def sn (st : St) (i key : Nat) : Int := snf st key 3 i
def pOK (st : St) : Prop := st 0 0 = -1 ∧ (0 ≤ st 0 1 ∧ st 0 1 < 1) ∧ (0 ≤ st 0 2 ∧ st 0 2 < 2)
theorem pOK.at {st : St} (h : pOK st) {i : Nat} (hi : i < 3) : -1 ≤ st 0 i ∧ st 0 i < i := by
  obtain ⟨h0, h1, h2⟩ := h
  match i, hi with
  | 0, _ => omega
  | 1, _ => omega
  | 2, _ => omega
theorem snf_cases {st : St} (hp : pOK st) (key : Nat) : ∀ (n : Nat) (i : Int), -1 ≤ i → i < 3 → snf st key n i = -1 ∨ ∃ j : Nat, j < 3 ∧ snf st key n i = ((12 * j + key : Nat) : Int) ∧ st 5 (12 * j + key) ≠ 0
  | 0, i, _, _ => Or.inl rfl
  | n + 1, i, h1, h2 => by
    unfold snf
    by_cases hi : i < 0
    · rw [if_pos hi]; exact Or.inl rfl
    · rw [if_neg hi]
      have hlt : i.toNat < 3 := by omega
      by_cases hk : st 5 (12 * i.toNat + key) ≠ 0
      · rw [if_pos hk]
        exact Or.inr ⟨i.toNat, hlt, by omega, hk⟩
      · rw [if_neg hk]
        have := hp.at hlt
        exact snf_cases hp key n _ (by omega) (by omega)
theorem sn_cases {st : St} (hp : pOK st) {i key : Nat} (hi : i < 3) : sn st i key = -1 ∨ ∃ j : Nat, j < 3 ∧ sn st i key = ((12 * j + key : Nat) : Int) ∧ st 5 (12 * j + key) ≠ 0 := snf_cases hp key 3 i (by omega) (by omega)
def kpt (st : St) (p : Nat) : Int := st 11 p + st 12 p
/-- a new instance of the class at p, with the values vs of its needs -/
def mk (st : St) (p : Nat) (vs : Nat → Int) : St := fun f =>
  if f = 11 then (if st 7 p = 1 then iup (st 11) p (st 23 0 + 1) else st 11)
  else if f = 12 then (if st 7 p = 2 then iup (st 12) p (st 23 0 + 1) else st 12)
  else if f = 16 then iup (st 16) (st 23 0).toNat ((p % 12 : Nat) : Int)
  else if f = 17 then iup (st 17) (st 23 0).toNat ((p / 12 : Nat) : Int)
  else if f = 18 then iup (st 18) (st 23 0).toNat (st 7 p)
  else if f = 19 then iup (st 19) (st 23 0).toNat (st 8 p)
  else if f = 20 then cpn (st 20) (4 * (st 23 0).toNat) (st 8 p).toNat (fun k => st 9 (4 * p + k))
  else if f = 21 then cpn (st 21) (4 * (st 23 0).toNat) (st 8 p).toNat (fun k => st 10 (4 * p + k))
  else if f = 22 then cpn (st 22) (4 * (st 23 0).toNat) (st 8 p).toNat vs
  else if f = 23 then iup (st 23) 0 (st 23 0 + 1)
  else st f
/-- the fields that a getting may change -/
def dyn (f : Nat) : Bool := f == 11 || f == 12 || (16 ≤ f && f ≤ 23)
theorem mk_o {st : St} {p : Nat} {vs : Nat → Int} {f : Nat} (h : dyn f = false) : mk st p vs f = st f := by
  simp only [dyn, Bool.or_eq_false_iff, beq_eq_false_iff_ne, Bool.and_eq_false_iff, decide_eq_false_iff_not] at h
  obtain ⟨⟨h1, h2⟩, h3⟩ := h
  unfold mk
  rw [if_neg h1, if_neg h2, if_neg (by omega), if_neg (by omega), if_neg (by omega), if_neg (by omega), if_neg (by omega), if_neg (by omega), if_neg (by omega), if_neg (by omega)]
theorem mk_23 (st : St) (p : Nat) (vs : Nat → Int) : mk st p vs 23 0 = st 23 0 + 1 := by
  show iup (st 23) 0 (st 23 0 + 1) 0 = _
  rw [iup_s]
/-- GETTING, as the document says it: rget's first argument is how many more pairs there may be in work, wk those that are; an error leaves what was made on the way (it is taken back from outside) -/
def rneeds (g : St → Nat → Nat → Int × St) (p : Nat) : Nat → Nat → St → (Nat → Int) → Int × St × (Nat → Int)
  | 0, _, st, vs => (0, st, vs)
  | n + 1, j, st, vs =>
    if st 10 (4 * p + j) = 1 then rneeds g p n (j + 1) st (iup vs j (20000000000 + 16 * ((p / 12 : Nat) : Int) + st 9 (4 * p + j)))
    else if (g st (p / 12) (st 9 (4 * p + j)).toNat).1 < 0 then ((g st (p / 12) (st 9 (4 * p + j)).toNat).1, (g st (p / 12) (st 9 (4 * p + j)).toNat).2, vs)
    else rneeds g p n (j + 1) (g st (p / 12) (st 9 (4 * p + j)).toNat).2 (iup vs j (g st (p / 12) (st 9 (4 * p + j)).toNat).1)
def rend (p : Nat) (r : Int × St × (Nat → Int)) : Int × St :=
  if r.1 < 0 then (r.1, r.2.1) else if r.2.1 23 0 = 100 then (-5, r.2.1) else (r.2.1 23 0, mk r.2.1 p r.2.2)
def rgo (g : St → Nat → Nat → Int × St) (st : St) (p : Nat) : Int × St :=
  if st 5 p = 2 then g st (p / 12) (st 6 p).toNat
  else if st 7 p = 2 ∧ st 15 0 = 0 then (-4, st)
  else rend p (rneeds g p (st 8 p).toNat 0 st (fun _ => 0))
def wadd (wk : Nat → Bool) (p : Nat) : Nat → Bool := fun q => q == p || wk q
def rget : Nat → (Nat → Bool) → St → Nat → Nat → Int × St
  | 0, _, st, _, _ => (-3, st)
  | d + 1, wk, st, i, k =>
    if sn st i k < 0 then (-2, st)
    else if st 5 (sn st i k).toNat = 1 then (10000000000 + st 6 (sn st i k).toNat, st)
    else if kpt st (sn st i k).toNat ≠ 0 then (kpt st (sn st i k).toNat - 1, st)
    else if wk (sn st i k).toNat = true ∨ d = 0 then (-3, st)
    else rgo (rget d (wadd wk (sn st i k).toNat)) st (sn st i k).toNat
/-! what holds of every state -/
def r32 (a : Int) : Prop := -2147483648 ≤ a ∧ a ≤ 2147483647
def Inv (st : St) : Prop :=
  (1 ≤ st 1 0 ∧ st 1 0 ≤ 3) ∧ pOK st ∧ (0 ≤ st 4 0 ∧ st 4 0 ≤ 4) ∧ (∀ j, 0 ≤ st 2 j ∧ st 2 j ≤ 11) ∧ (∀ j, st 3 j = 0 ∨ st 3 j = 1) ∧
  (∀ p, 0 ≤ st 5 p ∧ st 5 p ≤ 3) ∧ (∀ p : Nat, st 5 p ≠ 0 → ((p / 12 : Nat) : Int) < st 1 0) ∧ (∀ p, r32 (st 6 p)) ∧ (∀ p, st 5 p = 2 → 0 ≤ st 6 p ∧ st 6 p ≤ 11) ∧
  (∀ p, 0 ≤ st 7 p ∧ st 7 p ≤ 2) ∧ (∀ p, 0 ≤ st 8 p ∧ st 8 p ≤ 4) ∧ (∀ j, 0 ≤ st 9 j ∧ st 9 j ≤ 11) ∧ (∀ j, st 10 j = 0 ∨ st 10 j = 1) ∧
  (∀ p, 0 ≤ st 11 p ∧ st 11 p ≤ st 23 0) ∧ (∀ p, st 11 p ≠ 0 → st 5 p = 3 ∧ st 7 p = 1) ∧ (∀ p, 0 ≤ st 12 p ∧ st 12 p ≤ st 23 0) ∧ (∀ p, st 12 p ≠ 0 → st 5 p = 3 ∧ st 7 p = 2 ∧ st 15 0 = 1) ∧
  (st 15 0 = 0 ∨ st 15 0 = 1) ∧ (0 ≤ st 23 0 ∧ st 23 0 ≤ 100) ∧
  (∀ i, 0 ≤ st 16 i ∧ st 16 i ≤ 11) ∧ (∀ i, 0 ≤ st 17 i ∧ st 17 i ≤ 2) ∧ (∀ i : Nat, (i : Int) < st 23 0 → st 17 i < st 1 0) ∧ (∀ i, 0 ≤ st 18 i ∧ st 18 i ≤ 2) ∧ (∀ i, 0 ≤ st 19 i ∧ st 19 i ≤ 4) ∧ (∀ j, 0 ≤ st 20 j ∧ st 20 j ≤ 11) ∧ (∀ j, st 21 j = 0 ∨ st 21 j = 1) ∧ (∀ j, 0 ≤ st 22 j ∧ st 22 j ≤ 1000000000000)
theorem Inv.inj {st : St} (h : Inv st) : 1 ≤ st 1 0 ∧ st 1 0 ≤ 3 := h.1
theorem Inv.par {st : St} (h : Inv st) : pOK st := h.2.1
theorem Inv.bn {st : St} (h : Inv st) : 0 ≤ st 4 0 ∧ st 4 0 ≤ 4 := h.2.2.1
theorem Inv.bk {st : St} (h : Inv st) (j : Nat) : 0 ≤ st 2 j ∧ st 2 j ≤ 11 := h.2.2.2.1 j
theorem Inv.bz {st : St} (h : Inv st) (j : Nat) : st 3 j = 0 ∨ st 3 j = 1 := h.2.2.2.2.1 j
theorem Inv.kd {st : St} (h : Inv st) (p : Nat) : 0 ≤ st 5 p ∧ st 5 p ≤ 3 := h.2.2.2.2.2.1 p
theorem Inv.kj {st : St} (h : Inv st) {p : Nat} (hp : st 5 p ≠ 0) : ((p / 12 : Nat) : Int) < st 1 0 := h.2.2.2.2.2.2.1 p hp
theorem Inv.nu {st : St} (h : Inv st) (p : Nat) : r32 (st 6 p) := h.2.2.2.2.2.2.2.1 p
theorem Inv.lk {st : St} (h : Inv st) {p : Nat} (hp : st 5 p = 2) : 0 ≤ st 6 p ∧ st 6 p ≤ 11 := h.2.2.2.2.2.2.2.2.1 p hp
theorem Inv.sc {st : St} (h : Inv st) (p : Nat) : 0 ≤ st 7 p ∧ st 7 p ≤ 2 := h.2.2.2.2.2.2.2.2.2.1 p
theorem Inv.nn {st : St} (h : Inv st) (p : Nat) : 0 ≤ st 8 p ∧ st 8 p ≤ 4 := h.2.2.2.2.2.2.2.2.2.2.1 p
theorem Inv.nk {st : St} (h : Inv st) (j : Nat) : 0 ≤ st 9 j ∧ st 9 j ≤ 11 := h.2.2.2.2.2.2.2.2.2.2.2.1 j
theorem Inv.nz {st : St} (h : Inv st) (j : Nat) : st 10 j = 0 ∨ st 10 j = 1 := h.2.2.2.2.2.2.2.2.2.2.2.2.1 j
theorem Inv.si {st : St} (h : Inv st) (p : Nat) : 0 ≤ st 11 p ∧ st 11 p ≤ st 23 0 := h.2.2.2.2.2.2.2.2.2.2.2.2.2.1 p
theorem Inv.si2 {st : St} (h : Inv st) {p : Nat} (hp : st 11 p ≠ 0) : st 5 p = 3 ∧ st 7 p = 1 := h.2.2.2.2.2.2.2.2.2.2.2.2.2.2.1 p hp
theorem Inv.re {st : St} (h : Inv st) (p : Nat) : 0 ≤ st 12 p ∧ st 12 p ≤ st 23 0 := h.2.2.2.2.2.2.2.2.2.2.2.2.2.2.2.1 p
theorem Inv.re2 {st : St} (h : Inv st) {p : Nat} (hp : st 12 p ≠ 0) : st 5 p = 3 ∧ st 7 p = 2 ∧ st 15 0 = 1 := h.2.2.2.2.2.2.2.2.2.2.2.2.2.2.2.2.1 p hp
theorem Inv.op {st : St} (h : Inv st) : st 15 0 = 0 ∨ st 15 0 = 1 := h.2.2.2.2.2.2.2.2.2.2.2.2.2.2.2.2.2.1
theorem Inv.md {st : St} (h : Inv st) : 0 ≤ st 23 0 ∧ st 23 0 ≤ 100 := h.2.2.2.2.2.2.2.2.2.2.2.2.2.2.2.2.2.2.1
theorem Inv.ik {st : St} (h : Inv st) (i : Nat) : 0 ≤ st 16 i ∧ st 16 i ≤ 11 := h.2.2.2.2.2.2.2.2.2.2.2.2.2.2.2.2.2.2.2.1 i
theorem Inv.ij {st : St} (h : Inv st) (i : Nat) : 0 ≤ st 17 i ∧ st 17 i ≤ 2 := h.2.2.2.2.2.2.2.2.2.2.2.2.2.2.2.2.2.2.2.2.1 i
theorem Inv.ij2 {st : St} (h : Inv st) {i : Nat} (hi : (i : Int) < st 23 0) : st 17 i < st 1 0 := h.2.2.2.2.2.2.2.2.2.2.2.2.2.2.2.2.2.2.2.2.2.1 i hi
theorem Inv.is {st : St} (h : Inv st) (i : Nat) : 0 ≤ st 18 i ∧ st 18 i ≤ 2 := h.2.2.2.2.2.2.2.2.2.2.2.2.2.2.2.2.2.2.2.2.2.2.1 i
theorem Inv.inn {st : St} (h : Inv st) (i : Nat) : 0 ≤ st 19 i ∧ st 19 i ≤ 4 := h.2.2.2.2.2.2.2.2.2.2.2.2.2.2.2.2.2.2.2.2.2.2.2.1 i
theorem Inv.ink {st : St} (h : Inv st) (j : Nat) : 0 ≤ st 20 j ∧ st 20 j ≤ 11 := h.2.2.2.2.2.2.2.2.2.2.2.2.2.2.2.2.2.2.2.2.2.2.2.2.1 j
theorem Inv.iz {st : St} (h : Inv st) (j : Nat) : st 21 j = 0 ∨ st 21 j = 1 := h.2.2.2.2.2.2.2.2.2.2.2.2.2.2.2.2.2.2.2.2.2.2.2.2.2.1 j
theorem Inv.ivv {st : St} (h : Inv st) (j : Nat) : 0 ≤ st 22 j ∧ st 22 j ≤ 1000000000000 := h.2.2.2.2.2.2.2.2.2.2.2.2.2.2.2.2.2.2.2.2.2.2.2.2.2.2 j
theorem Inv.kp {st : St} (h : Inv st) (p : Nat) : 0 ≤ kpt st p ∧ kpt st p ≤ st 23 0 := by
  have h1 := h.si p
  have h2 := h.re p
  unfold kpt
  by_cases e : st 11 p = 0
  · omega
  · by_cases e2 : st 12 p = 0
    · omega
    · have := (h.si2 e).2
      have := (h.re2 e2).2.1
      omega
theorem Inv.seen {st : St} (h : Inv st) {i key : Nat} (hi : i < 3) (hk : key < 12) (hs : ¬ sn st i key < 0) : ∃ p : Nat, p < 36 ∧ sn st i key = (p : Int) ∧ st 5 p ≠ 0 ∧ p % 12 = key := by
  rcases sn_cases h.par (key := key) hi with q | ⟨j, hj, e, hk0⟩
  · omega
  · exact ⟨12 * j + key, by omega, e, hk0, by omega⟩
/-- a new instance keeps what holds -/
theorem Inv.mkI {st : St} (h : Inv st) {p : Nat} {vs : Nat → Int} (hp : p < 36) (h3 : st 5 p = 3) (hno : ¬ (st 7 p = 2 ∧ st 15 0 = 0)) (hm : st 23 0 ≠ 100) (hv : ∀ k, k < 4 → 0 ≤ vs k ∧ vs k ≤ 1000000000000) : Inv (mk st p vs) := by
  have hmd := h.md
  have e23 := mk_23 st p vs
  have o : ∀ f, dyn f = false → mk st p vs f = st f := fun f hf => mk_o hf
  have iu : ∀ (g : Nat → Int) (k : Nat) (v lo hi : Int), (∀ i, lo ≤ g i ∧ g i ≤ hi) → (lo ≤ v ∧ v ≤ hi) → ∀ i, lo ≤ iup g k v i ∧ iup g k v i ≤ hi := by
    intro g k v lo hi h1 h2 i
    by_cases e : i = k
    · subst e; rw [iup_s]; exact h2
    · rw [iup_n e]; exact h1 i
  have hnn := h.nn p
  have cp : ∀ (g w : Nat → Int) (b : Nat) (lo hi : Int), (∀ i, lo ≤ g i ∧ g i ≤ hi) → (∀ k, k < 4 → lo ≤ w k ∧ w k ≤ hi) → ∀ i, lo ≤ cpn g b (st 8 p).toNat w i ∧ cpn g b (st 8 p).toNat w i ≤ hi := by
    intro g w b lo hi h1 h2 i
    by_cases e : b ≤ i ∧ i < b + (st 8 p).toNat
    · rw [cpn_in e.1 e.2]; exact h2 _ (by omega)
    · rw [cpn_out (by omega)]; exact h1 i
  have hsc := h.sc p
  refine ⟨?_, ?_, ?_, ?_, ?_, ?_, ?_, ?_, ?_, ?_, ?_, ?_, ?_, ?_, ?_, ?_, ?_, ?_, ?_, ?_, ?_, ?_, ?_, ?_, ?_, ?_, ?_⟩
  · rw [o 1 rfl]; exact h.inj
  · unfold pOK; rw [o 0 rfl]; exact h.par
  · rw [o 4 rfl]; exact h.bn
  · rw [o 2 rfl]; exact h.bk
  · rw [o 3 rfl]; exact h.bz
  · rw [o 5 rfl]; exact h.kd
  · rw [o 5 rfl, o 1 rfl]; exact fun _ => h.kj
  · rw [o 6 rfl]; exact h.nu
  · rw [o 5 rfl, o 6 rfl]; exact fun _ => h.lk
  · rw [o 7 rfl]; exact h.sc
  · rw [o 8 rfl]; exact h.nn
  · rw [o 9 rfl]; exact h.nk
  · rw [o 10 rfl]; exact h.nz
  · rw [e23]
    intro q
    have hq := h.si q
    show 0 ≤ (if st 7 p = 1 then iup (st 11) p (st 23 0 + 1) else st 11) q ∧ (if st 7 p = 1 then iup (st 11) p (st 23 0 + 1) else st 11) q ≤ _
    by_cases c : st 7 p = 1
    · rw [if_pos c]
      by_cases e : q = p
      · subst e; rw [iup_s]; omega
      · rw [iup_n e]; omega
    · rw [if_neg c]; omega
  · rw [o 5 rfl, o 7 rfl]
    intro q
    show (if st 7 p = 1 then iup (st 11) p (st 23 0 + 1) else st 11) q ≠ 0 → _
    by_cases c : st 7 p = 1
    · rw [if_pos c]
      by_cases e : q = p
      · subst e; exact fun _ => ⟨h3, c⟩
      · rw [iup_n e]; exact h.si2
    · rw [if_neg c]; exact h.si2
  · rw [e23]
    intro q
    have hq := h.re q
    show 0 ≤ (if st 7 p = 2 then iup (st 12) p (st 23 0 + 1) else st 12) q ∧ (if st 7 p = 2 then iup (st 12) p (st 23 0 + 1) else st 12) q ≤ _
    by_cases c : st 7 p = 2
    · rw [if_pos c]
      by_cases e : q = p
      · subst e; rw [iup_s]; omega
      · rw [iup_n e]; omega
    · rw [if_neg c]; omega
  · rw [o 5 rfl, o 7 rfl, o 15 rfl]
    intro q
    show (if st 7 p = 2 then iup (st 12) p (st 23 0 + 1) else st 12) q ≠ 0 → _
    by_cases c : st 7 p = 2
    · rw [if_pos c]
      by_cases e : q = p
      · subst e
        exact fun _ => ⟨h3, c, by rcases h.op with z | z
                                  · exact absurd ⟨c, z⟩ hno
                                  · exact z⟩
      · rw [iup_n e]; exact h.re2
    · rw [if_neg c]; exact h.re2
  · rw [o 15 rfl]; exact h.op
  · rw [e23]; omega
  · exact iu (st 16) _ _ 0 11 h.ik (by omega)
  · exact iu (st 17) _ _ 0 2 h.ij (by omega)
  · rw [e23, o 1 rfl]
    intro i hi
    show iup (st 17) (st 23 0).toNat ((p / 12 : Nat) : Int) i < _
    by_cases e : i = (st 23 0).toNat
    · rw [e, iup_s]; exact h.kj (by omega)
    · rw [iup_n e]; exact h.ij2 (by omega)
  · exact iu (st 18) _ _ 0 2 h.is hsc
  · exact iu (st 19) _ _ 0 4 h.inn hnn
  · exact cp (st 20) _ _ 0 11 h.ink (fun k _ => h.nk _)
  · intro j
    have z := cp (st 21) (fun k => st 10 (4 * p + k)) (4 * (st 23 0).toNat) 0 1 (fun i => by have := h.iz i; omega) (fun k _ => by have := h.nz (4 * p + k); omega) j
    show cpn (st 21) (4 * (st 23 0).toNat) (st 8 p).toNat (fun k => st 10 (4 * p + k)) j = 0 ∨ cpn (st 21) (4 * (st 23 0).toNat) (st 8 p).toNat (fun k => st 10 (4 * p + k)) j = 1
    omega
  · exact cp (st 22) vs _ 0 1000000000000 h.ivv hv
end
section
/-! what a getting keeps -/
def grow (s r : St) : Prop := (∀ f, dyn f = false → r f = s f) ∧ s 23 0 ≤ r 23 0 ∧ (∀ p, r 11 p = s 11 p ∨ (p < 36 ∧ s 23 0 < r 11 p)) ∧ (∀ p, r 12 p = s 12 p ∨ (p < 36 ∧ s 23 0 < r 12 p)) ∧ (∀ i : Nat, (i : Int) < s 23 0 → r 16 i = s 16 i ∧ r 17 i = s 17 i ∧ r 18 i = s 18 i ∧ r 19 i = s 19 i) ∧ ∀ j : Nat, (j : Int) < 4 * s 23 0 → r 20 j = s 20 j ∧ r 21 j = s 21 j ∧ r 22 j = s 22 j
theorem grow.rf (s : St) : grow s s := ⟨fun _ _ => rfl, Int.le_refl _, fun _ => Or.inl rfl, fun _ => Or.inl rfl, fun _ _ => ⟨rfl, rfl, rfl, rfl⟩, fun _ _ => ⟨rfl, rfl, rfl⟩⟩
theorem grow.tr {a b c : St} (h : grow a b) (k : grow b c) : grow a c := by
  obtain ⟨h1, h2, h3, h4, h5, h6⟩ := h
  obtain ⟨k1, k2, k3, k4, k5, k6⟩ := k
  refine ⟨fun f hf => (k1 f hf).trans (h1 f hf), by omega, fun p => ?_, fun p => ?_, fun i hi => ?_, fun j hj => ?_⟩
  · have := h3 p; have := k3 p; omega
  · have := h4 p; have := k4 p; omega
  · have := h5 i hi; have := k5 i (by omega); omega
  · have := h6 j hj; have := k6 j (by omega); omega
theorem grow.mkG {s : St} (hm : 0 ≤ s 23 0) {p : Nat} (hp : p < 36) (vs : Nat → Int) : grow s (mk s p vs) := by
  refine ⟨fun f hf => mk_o hf, by rw [mk_23]; omega, fun q => ?_, fun q => ?_, fun i hi => ?_, fun j hj => ?_⟩
  · show (if s 7 p = 1 then iup (s 11) p (s 23 0 + 1) else s 11) q = _ ∨ (q < 36 ∧ _ < (if s 7 p = 1 then iup (s 11) p (s 23 0 + 1) else s 11) q)
    by_cases c : s 7 p = 1
    · rw [if_pos c]
      by_cases e : q = p
      · subst e; rw [iup_s]; exact Or.inr (by omega)
      · rw [iup_n e]; exact Or.inl rfl
    · rw [if_neg c]; exact Or.inl rfl
  · show (if s 7 p = 2 then iup (s 12) p (s 23 0 + 1) else s 12) q = _ ∨ (q < 36 ∧ _ < (if s 7 p = 2 then iup (s 12) p (s 23 0 + 1) else s 12) q)
    by_cases c : s 7 p = 2
    · rw [if_pos c]
      by_cases e : q = p
      · subst e; rw [iup_s]; exact Or.inr (by omega)
      · rw [iup_n e]; exact Or.inl rfl
    · rw [if_neg c]; exact Or.inl rfl
  · have ne : i ≠ (s 23 0).toNat := by omega
    exact ⟨iup_n (f := s 16) ne, iup_n (f := s 17) ne, iup_n (f := s 18) ne, iup_n (f := s 19) ne⟩
  · have ne : j < 4 * (s 23 0).toNat ∨ 4 * (s 23 0).toNat + (s 8 p).toNat ≤ j := by omega
    exact ⟨cpn_out (g := s 20) (h := fun k => s 9 (4 * p + k)) ne, cpn_out (g := s 21) (h := fun k => s 10 (4 * p + k)) ne, cpn_out (g := s 22) (h := vs) ne⟩
def okr (s : St) (r : Int × St) : Prop := Inv r.2 ∧ grow s r.2 ∧ -5 ≤ r.1 ∧ r.1 ≤ 1000000000000
def gok (g : St → Nat → Nat → Int × St) : Prop := ∀ (s : St) (i k : Nat), Inv s → i < 3 → k < 12 → okr s (g s i k)
theorem rneeds_ok {g : St → Nat → Nat → Int × St} (hg : gok g) {p : Nat} (hp : p < 36) : ∀ (n j : Nat) (s : St) (vs : Nat → Int), Inv s → (∀ k, 0 ≤ vs k ∧ vs k ≤ 1000000000000) →
    Inv (rneeds g p n j s vs).2.1 ∧ grow s (rneeds g p n j s vs).2.1 ∧ -5 ≤ (rneeds g p n j s vs).1 ∧ (rneeds g p n j s vs).1 ≤ 0 ∧ ∀ k, 0 ≤ (rneeds g p n j s vs).2.2 k ∧ (rneeds g p n j s vs).2.2 k ≤ 1000000000000
  | 0, j, s, vs, hs, hv => ⟨hs, grow.rf s, by show (-5 : Int) ≤ 0; omega, Int.le_refl 0, hv⟩
  | n + 1, j, s, vs, hs, hv => by
    have hk := hs.nk (4 * p + j)
    have upd : ∀ v : Int, 0 ≤ v ∧ v ≤ 1000000000000 → ∀ k, 0 ≤ iup vs j v k ∧ iup vs j v k ≤ 1000000000000 := by
      intro v h k
      by_cases e : k = j
      · subst e; rw [iup_s]; exact h
      · rw [iup_n e]; exact hv k
    unfold rneeds
    by_cases hz : s 10 (4 * p + j) = 1
    · rw [if_pos hz]
      exact rneeds_ok hg hp n (j + 1) s _ hs (upd _ (by omega))
    · rw [if_neg hz]
      have h1 := hg s (p / 12) (s 9 (4 * p + j)).toNat hs (by omega) (by omega)
      generalize g s (p / 12) (s 9 (4 * p + j)).toNat = r at h1 ⊢
      obtain ⟨a1, a2, a3, a4⟩ := h1
      by_cases hr : r.1 < 0
      · rw [if_pos hr]
        exact ⟨a1, a2, a3, by show r.1 ≤ 0; omega, hv⟩
      · rw [if_neg hr]
        obtain ⟨b1, b2, b3⟩ := rneeds_ok hg hp n (j + 1) r.2 (iup vs j r.1) a1 (upd _ (by omega))
        exact ⟨b1, a2.tr b2, b3⟩
theorem rend_ok {s : St} {p : Nat} {r : Int × St × (Nat → Int)} (hp : p < 36) (h3 : s 5 p = 3) (hno : ¬ (s 7 p = 2 ∧ s 15 0 = 0)) (hi : Inv r.2.1) (hg : grow s r.2.1) (h1 : -5 ≤ r.1) (h2 : r.1 ≤ 0) (hv : ∀ k, 0 ≤ r.2.2 k ∧ r.2.2 k ≤ 1000000000000) : okr s (rend p r) := by
  unfold rend
  have hmd := hi.md
  by_cases c : r.1 < 0
  · rw [if_pos c]; exact ⟨hi, hg, h1, by show r.1 ≤ _; omega⟩
  · rw [if_neg c]
    by_cases c2 : r.2.1 23 0 = 100
    · rw [if_pos c2]; exact ⟨hi, hg, by show (-5 : Int) ≤ -5; omega, by show (-5 : Int) ≤ _; omega⟩
    · rw [if_neg c2]
      have o := hg.1
      refine ⟨hi.mkI hp (by rw [o 5 rfl]; exact h3) (by rw [o 7 rfl, o 15 rfl]; exact hno) c2 (fun k _ => hv k), hg.tr (grow.mkG hmd.1 hp _), ?_, ?_⟩
      · show -5 ≤ r.2.1 23 0; omega
      · show r.2.1 23 0 ≤ _; omega
theorem rgo_ok {g : St → Nat → Nat → Int × St} (hg : gok g) {s : St} {p : Nat} (hp : p < 36) (hs : Inv s) (h0 : s 5 p = 2 ∨ s 5 p = 3) : okr s (rgo g s p) := by
  unfold rgo
  by_cases c : s 5 p = 2
  · rw [if_pos c]
    have := hs.lk c
    exact hg s (p / 12) (s 6 p).toNat hs (by omega) (by omega)
  · rw [if_neg c]
    by_cases c2 : s 7 p = 2 ∧ s 15 0 = 0
    · rw [if_pos c2]; exact ⟨hs, grow.rf s, by show (-5 : Int) ≤ -4; omega, by show (-4 : Int) ≤ _; omega⟩
    · rw [if_neg c2]
      obtain ⟨a1, a2, a3, a4, a5⟩ := rneeds_ok hg hp (s 8 p).toNat 0 s (fun _ => 0) hs (fun _ => by omega)
      exact rend_ok hp (by omega) c2 a1 a2 a3 a4 a5
theorem rget_ok : ∀ (d : Nat) (wk : Nat → Bool), gok (rget d wk)
  | 0, wk => fun s i k hs _ _ => ⟨hs, grow.rf s, by show (-5 : Int) ≤ -3; omega, by show (-3 : Int) ≤ _; omega⟩
  | d + 1, wk => by
    intro s i k hs hi hk
    unfold rget
    by_cases c : sn s i k < 0
    · rw [if_pos c]; exact ⟨hs, grow.rf s, by show (-5 : Int) ≤ -2; omega, by show (-2 : Int) ≤ _; omega⟩
    · rw [if_neg c]
      obtain ⟨p, hp, e, h0, -⟩ := hs.seen hi hk c
      rw [e, Int.toNat_natCast]
      by_cases c1 : s 5 p = 1
      · rw [if_pos c1]
        have := hs.nu p
        unfold r32 at this
        exact ⟨hs, grow.rf s, by show -5 ≤ 10000000000 + s 6 p; omega, by show 10000000000 + s 6 p ≤ _; omega⟩
      · rw [if_neg c1]
        have hkp := hs.kp p
        have hmd := hs.md
        by_cases c2 : kpt s p ≠ 0
        · rw [if_pos c2]; exact ⟨hs, grow.rf s, by show -5 ≤ kpt s p - 1; omega, by show kpt s p - 1 ≤ _; omega⟩
        · rw [if_neg c2]
          by_cases c3 : wk p = true ∨ d = 0
          · rw [if_pos c3]; exact ⟨hs, grow.rf s, by show (-5 : Int) ≤ -3; omega, by show (-3 : Int) ≤ _; omega⟩
          · rw [if_neg c3]
            have := hs.kd p
            exact rgo_ok (rget_ok d (wadd wk p)) hp hs (by omega)
/-- a getting from outside -/
def sget (st : St) (i k : Nat) : Int × St := if (rget 37 (fun _ => false) st i k).1 < 0 then ((rget 37 (fun _ => false) st i k).1, st) else rget 37 (fun _ => false) st i k
end
section
/-! THE REFERENCE'S MACHINE: what begin, make, work, took and gets do to the state -/
def wkg (st : St) (p : Nat) : Bool := (List.range (st 27 0).toNat).any fun k => decide (st 24 k = (p : Int))
def mpush (st : St) (p : Nat) : St := sup (sup (sup st 24 (st 27 0).toNat p) 25 (st 27 0).toNat 0) 27 0 (st 27 0 + 1)
def mbeginp (st : St) (p : Nat) : Int × St :=
  if st 5 p = 1 then (10000000000 + st 6 p, st)
  else if st 5 p = 3 ∧ st 7 p = 1 ∧ st 11 p ≠ 0 then (st 11 p - 1, st)
  else if st 5 p = 3 ∧ st 7 p = 2 ∧ st 15 0 ≠ 0 ∧ st 12 p ≠ 0 then (st 12 p - 1, st)
  else if wkg st p = true then (-3, st)
  else if st 5 p = 3 ∧ st 7 p = 2 ∧ st 15 0 = 0 then (-4, st)
  else (-100, mpush st p)
def mbegin (st : St) (i k : Nat) : Int × St := if sn st i k < 0 then (-2, st) else mbeginp st (sn st i k).toNat
def mmake (st : St) (p w : Nat) : Int × St := if st 23 0 = 100 then (-5, st) else (st 23 0, mk st p (fun k => st 26 (4 * w + k)))
def mone (st : St) (p me : Nat) : Int × St := if st 10 (4 * p + (st 25 me).toNat) = 1 then (20000000000 + 16 * ((p / 12 : Nat) : Int) + st 9 (4 * p + (st 25 me).toNat), st) else mbegin st (p / 12) (st 9 (4 * p + (st 25 me).toNat)).toNat
def mput (st : St) (me : Nat) (v : Int) : St := sup (sup st 26 (4 * me + (st 25 me).toNat) v) 25 me (st 25 me + 1)
def mneeds (p me : Nat) : Nat → St → Int × St
  | 0, st => mmake st p me
  | n + 1, st => if (mone st p me).1 < 0 then mone st p me else mneeds p me n (mput (mone st p me).2 me (mone st p me).1)
def mworkp (st : St) (me p : Nat) : Int × St :=
  if st 5 p = 2 then (if st 25 me = 0 then mbegin st (p / 12) (st 6 p).toNat else (st 26 (4 * me), st)) else mneeds p me (st 8 p - st 25 me).toNat st
def mwork (st : St) : Int × St := mworkp st (st 27 0 - 1).toNat (st 24 (st 27 0 - 1).toNat).toNat
def mtk (st : St) (v : Int) : St := sup (sup st 26 (4 * (st 27 0 - 1).toNat) v) 25 (st 27 0 - 1).toNat 1
def mpop (st : St) : St := sup st 27 0 (st 27 0 - 1)
def mdel (st : St) (v : Int) : St := mput st (st 27 0 - 1).toNat v
def mcont (rec : Int → St → Int × St) (w : Int × St) (tp : Int) : Int × St :=
  if w.1 < 0 then rec w.1 w.2
  else if w.2 27 0 = tp ∧ w.2 5 (w.2 24 (w.2 27 0 - 1).toNat).toNat = 2 ∧ w.2 25 (w.2 27 0 - 1).toNat = 0 then rec w.1 (mtk w.2 w.1)
  else if mpop w.2 27 0 = 0 then (w.1, mpop w.2)
  else rec w.1 (mdel (mpop w.2) w.1)
def mloop : Nat → Int → St → Int × St
  | 0, v, st => (v, st)
  | n + 1, v, st => if st 27 0 ≤ 0 then (v, st) else if v < 0 ∧ v ≠ -100 then (v, st) else mcont (mloop n) (mwork st) (st 27 0)
def mgets (st : St) (i k : Nat) : Int × St := mloop 100000 (mbegin (sup st 27 0 0) i k).1 (mbegin (sup st 27 0 0) i k).2
/-! pigeons -/
theorem pig : ∀ (n : Nat) (f : Nat → Nat), (∀ j, j < n + 1 → f j < n) → ∃ i j, i < j ∧ j < n + 1 ∧ f i = f j
  | 0, f, h => absurd (h 0 (by omega)) (by omega)
  | n + 1, f, h => by
    by_cases c : ∃ i, i < n + 1 ∧ f i = f (n + 1)
    · obtain ⟨i, hi, e⟩ := c
      exact ⟨i, n + 1, hi, by omega, e⟩
    · have hne : ∀ i, i < n + 1 → f i ≠ f (n + 1) := fun i hi e => c ⟨i, hi, e⟩
      obtain ⟨i, j, hij, hj, e⟩ := pig n (fun j => if f j = n then f (n + 1) else f j) (by
        intro j hj
        have h1 := h j (by omega)
        have h2 := h (n + 1) (by omega)
        have h3 := hne j hj
        show (if f j = n then f (n + 1) else f j) < n
        split <;> omega)
      have h1 := hne i (by omega)
      have h2 := hne j (by omega)
      have e : (if f i = n then f (n + 1) else f i) = (if f j = n then f (n + 1) else f j) := e
      refine ⟨i, j, hij, by omega, ?_⟩
      split at e <;> split at e <;> omega
/-- n different numbers under n are all of them -/
theorem pig_all {n : Nat} {f : Nat → Nat} (hf : ∀ j, j < n → f j < n) (inj : ∀ i j, i < n → j < n → f i = f j → i = j) {q : Nat} (hq : q < n) : ∃ j, j < n ∧ f j = q := by
  apply Classical.byContradiction
  intro hc
  have hne : ∀ j, j < n → f j ≠ q := fun j hj e => hc ⟨j, hj, e⟩
  match n, hq with
  | m + 1, hq =>
    obtain ⟨i, j, hij, hj, e⟩ := pig m (fun j => if f j = m then q else f j) (by
      intro j hj
      have h1 := hf j hj
      have h2 := hne j hj
      show (if f j = m then q else f j) < m
      split
      · have := hne j hj; omega
      · omega)
    have e : (if f i = m then q else f i) = (if f j = m then q else f j) := e
    have h1 := hne i (by omega)
    have h2 := hne j (by omega)
    have := inj i j (by omega) (by omega) (by split at e <;> split at e <;> omega)
    omega
/-! the machine follows the getting -/
def sem (m s : St) : Prop := ∀ f, f < 24 ∨ 27 < f → m f = s f
def low (t : Nat) (a b : St) : Prop := ∀ j, j < t → a 24 j = b 24 j ∧ a 25 j = b 25 j ∧ ∀ k, k < 4 → a 26 (4 * j + k) = b 26 (4 * j + k)
theorem low.tr {t : Nat} {a b c : St} (h : low t a b) (k : low t b c) : low t a c := fun j hj => ⟨(h j hj).1.trans (k j hj).1, (h j hj).2.1.trans (k j hj).2.1, fun i hi => ((h j hj).2.2 i hi).trans ((k j hj).2.2 i hi)⟩
def PF (m : St) (t : Nat) (wk : Nat → Bool) : Prop := m 27 0 = t ∧ (∀ j, j < t → 0 ≤ m 24 j ∧ m 24 j < 36) ∧ (∀ i j, i < t → j < t → m 24 i = m 24 j → i = j) ∧ ∀ q : Nat, wk q = true ↔ ∃ j, j < t ∧ m 24 j = (q : Int)
theorem PF.low {m m' : St} {t : Nat} {wk : Nat → Bool} (h : PF m t wk) (ht : m' 27 0 = t) (hl : ∀ j, j < t → m' 24 j = m 24 j) : PF m' t wk := by
  refine ⟨ht, fun j hj => by rw [hl j hj]; exact h.2.1 j hj, fun i j hi hj e => h.2.2.1 i j hi hj (by rw [← hl i hi, ← hl j hj]; exact e), fun q => (h.2.2.2 q).trans ⟨fun ⟨j, hj, e⟩ => ⟨j, hj, by rw [hl j hj]; exact e⟩, fun ⟨j, hj, e⟩ => ⟨j, hj, by rw [← hl j hj]; exact e⟩⟩⟩
theorem wkg_iff {m : St} {t : Nat} {wk : Nat → Bool} (h : PF m t wk) (q : Nat) : wkg m q = true ↔ wk q = true := by
  rw [h.2.2.2 q]
  unfold wkg
  rw [h.1, Int.toNat_natCast, List.any_eq_true]
  constructor
  · rintro ⟨k, hk, e⟩
    exact ⟨k, List.mem_range.mp hk, of_decide_eq_true e⟩
  · rintro ⟨k, hk, e⟩
    exact ⟨k, List.mem_range.mpr hk, decide_eq_true e⟩
theorem PF.push {m : St} {t q : Nat} {wk : Nat → Bool} (h : PF m t wk) (hq : q < 36) (hw : ¬ wk q = true) : PF (mpush m q) (t + 1) (wadd wk q) := by
  obtain ⟨h1, h2, h3, h4⟩ := h
  have e24 : mpush m q 24 = iup (m 24) t q := by
    show iup (m 24) (m 27 0).toNat q = _
    rw [h1, Int.toNat_natCast]
  have hnot : ∀ j, j < t → m 24 j ≠ (q : Int) := fun j hj e => hw ((h4 q).mpr ⟨j, hj, e⟩)
  refine ⟨?_, fun j hj => ?_, fun i j hi hj e => ?_, fun x => ?_⟩
  · show iup (m 27) 0 (m 27 0 + 1) 0 = _
    rw [iup_s, h1]; omega
  · rw [e24]
    by_cases c : j = t
    · subst c; rw [iup_s]; omega
    · rw [iup_n c]; exact h2 j (by omega)
  · rw [e24] at e
    by_cases ci : i = t
    · by_cases cj : j = t
      · omega
      · subst ci
        rw [iup_s, iup_n cj] at e
        exact absurd e.symm (hnot j (by omega))
    · by_cases cj : j = t
      · subst cj
        rw [iup_s, iup_n ci] at e
        exact absurd e (hnot i (by omega))
      · rw [iup_n ci, iup_n cj] at e
        exact h3 i j (by omega) (by omega) e
  · unfold wadd
    rw [Bool.or_eq_true, beq_iff_eq, h4 x, e24]
    constructor
    · rintro (rfl | ⟨j, hj, e⟩)
      · exact ⟨t, by omega, iup_s _ _ _⟩
      · exact ⟨j, by omega, by rw [iup_n (by omega)]; exact e⟩
    · rintro ⟨j, hj, e⟩
      by_cases c : j = t
      · subst c
        rw [iup_s] at e
        exact Or.inl (by omega)
      · rw [iup_n c] at e
        exact Or.inr ⟨j, by omega, e⟩
theorem sem_push {m s : St} {q : Nat} (h : sem m s) : sem (mpush m q) s := by
  intro f hf
  unfold mpush
  rw [sup_n (by omega), sup_n (by omega), sup_n (by omega)]
  exact h f hf
theorem snf_congr {a b : St} (h0 : a 0 = b 0) (h5 : a 5 = b 5) (key : Nat) : ∀ (n : Nat) (i : Int), snf a key n i = snf b key n i
  | 0, _ => rfl
  | n + 1, i => by
    unfold snf
    rw [h0, h5, snf_congr h0 h5 key n]
theorem sn_congr {a b : St} (h0 : a 0 = b 0) (h5 : a 5 = b 5) (i key : Nat) : sn a i key = sn b i key := snf_congr h0 h5 key 3 i
/-- begin, beside the getting -/
theorem beg {s m : St} {t d i k : Nat} {wk : Nat → Bool} (hs : Inv s) (hm : sem m s) (hP : PF m t wk) (htd : t + d = 36) (hi : i < 3) (hk : k < 12) :
    (mbegin m i k = ((rget (d + 1) wk s i k).1, m) ∧ (rget (d + 1) wk s i k).2 = s ∧ (rget (d + 1) wk s i k).1 ≠ -100) ∨
    ∃ q : Nat, q < 36 ∧ mbegin m i k = (-100, mpush m q) ∧ rget (d + 1) wk s i k = rgo (rget d (wadd wk q)) s q ∧ (s 5 q = 2 ∨ s 5 q = 3) ∧ ¬ (s 5 q = 3 ∧ s 7 q = 2 ∧ s 15 0 = 0) ∧ 0 < d ∧ ¬ wk q = true := by
  unfold mbegin
  rw [sn_congr (hm 0 (by omega)) (hm 5 (by omega))]
  by_cases c : sn s i k < 0
  · unfold rget
    rw [if_pos c, if_pos c]
    exact Or.inl ⟨rfl, rfl, by show (-2 : Int) ≠ -100; omega⟩
  · rw [if_neg c]
    obtain ⟨p, hp, e, h0, -⟩ := hs.seen hi hk c
    have hkd := hs.kd p
    have hsi := hs.si p
    have hre := hs.re p
    have hkp := hs.kp p
    have hnu := hs.nu p
    unfold r32 at hnu
    have key : rget (d + 1) wk s i k = if s 5 p = 1 then (10000000000 + s 6 p, s) else if kpt s p ≠ 0 then (kpt s p - 1, s) else if wk p = true ∨ d = 0 then (-3, s) else rgo (rget d (wadd wk p)) s p := by
      show (if sn s i k < 0 then _ else _) = _
      rw [if_neg c, e, Int.toNat_natCast]
    rw [key, e, Int.toNat_natCast]
    unfold mbeginp
    rw [hm 5 (by omega), hm 6 (by omega), hm 7 (by omega), hm 11 (by omega), hm 12 (by omega), hm 15 (by omega)]
    by_cases c1 : s 5 p = 1
    · rw [if_pos c1, if_pos c1]
      exact Or.inl ⟨rfl, rfl, by show 10000000000 + s 6 p ≠ -100; omega⟩
    · rw [if_neg c1, if_neg c1]
      by_cases c2 : s 11 p = 0
      · by_cases c3 : s 12 p = 0
        · have hk0 : kpt s p = 0 := by unfold kpt; omega
          rw [if_neg (fun z => z.2.2 c2), if_neg (fun z => z.2.2.2 c3), if_neg (show ¬ (kpt s p ≠ 0) from fun z => z hk0)]
          by_cases c4 : wk p = true
          · rw [if_pos (show wk p = true ∨ d = 0 from Or.inl c4), if_pos ((wkg_iff hP p).mpr c4)]
            exact Or.inl ⟨rfl, rfl, by show (-3 : Int) ≠ -100; omega⟩
          · have hd : d ≠ 0 := by
              intro hd
              apply c4
              rw [hP.2.2.2 p]
              obtain ⟨j, hj, ej⟩ := pig_all (n := t) (f := fun j => (m 24 j).toNat) (fun j hj => by have := hP.2.1 j hj; show (m 24 j).toNat < t; omega) (fun a b ha hb eab => hP.2.2.1 a b ha hb (by have := hP.2.1 a ha; have := hP.2.1 b hb; have eab : (m 24 a).toNat = (m 24 b).toNat := eab; omega)) (show p < t by omega)
              have := hP.2.1 j hj
              have ej : (m 24 j).toNat = p := ej
              exact ⟨j, hj, by omega⟩
            rw [if_neg (show ¬ (wk p = true ∨ d = 0) from fun z => z.elim c4 hd), if_neg (show ¬ wkg m p = true from fun z => c4 ((wkg_iff hP p).mp z))]
            by_cases c5 : s 5 p = 3 ∧ s 7 p = 2 ∧ s 15 0 = 0
            · rw [if_pos c5]
              have er : rgo (rget d (wadd wk p)) s p = (-4, s) := by
                unfold rgo
                rw [if_neg (by omega), if_pos c5.2]
              rw [er]
              exact Or.inl ⟨rfl, rfl, by show (-4 : Int) ≠ -100; omega⟩
            · rw [if_neg c5]
              exact Or.inr ⟨p, hp, rfl, rfl, by omega, c5, by omega, c4⟩
        · obtain ⟨g1, g2, g3⟩ := hs.re2 c3
          have hk0 : kpt s p = s 12 p := by unfold kpt; omega
          rw [if_neg (fun z => z.2.2 c2), if_pos ⟨g1, g2, by omega, c3⟩, if_pos (by rw [hk0]; exact c3), hk0]
          exact Or.inl ⟨rfl, rfl, by show s 12 p - 1 ≠ -100; omega⟩
      · obtain ⟨g1, g2⟩ := hs.si2 c2
        have c3 : s 12 p = 0 := by
          apply Classical.byContradiction
          intro z
          have := (hs.re2 z).2.1
          omega
        have hk0 : kpt s p = s 11 p := by unfold kpt; omega
        rw [if_pos ⟨g1, g2, c2⟩, if_pos (by rw [hk0]; exact c2), hk0]
        exact Or.inl ⟨rfl, rfl, by show s 11 p - 1 ≠ -100; omega⟩
def mfin (n t : Nat) (v : Int) (m : St) : Int × St := if t = 0 then (v, m) else mloop n v (mdel m v)
def SIMp (d : Nat) : Prop := ∀ (wk : Nat → Bool) (s m : St) (p t : Nat), Inv s → sem m s → PF m (t + 1) wk → t + d = 36 → p < 36 → m 24 t = (p : Int) → m 25 t = 0 → (s 5 p = 2 ∨ s 5 p = 3) → ¬ (s 5 p = 3 ∧ s 7 p = 2 ∧ s 15 0 = 0) → 0 < d →
  ∃ (c : Nat) (m' : St),
    (0 ≤ (rgo (rget d wk) s p).1 → sem m' (rgo (rget d wk) s p).2 ∧ m' 27 0 = t ∧ low t m' m ∧ (c : Int) + 300 * s 23 0 ≤ 2 * d + 300 * (rgo (rget d wk) s p).2 23 0 ∧ ∀ n, mloop (c + n) (-100) m = mfin n t (rgo (rget d wk) s p).1 m') ∧
    ((rgo (rget d wk) s p).1 < 0 → sem m' (rgo (rget d wk) s p).2 ∧ (c : Int) + 300 * s 23 0 ≤ 300 * d + 300 * (rgo (rget d wk) s p).2 23 0 ∧ ∀ n, mloop (c + n) (-100) m = ((rgo (rget d wk) s p).1, m'))
theorem mloop_err {n : Nat} {v : Int} {m : St} (h1 : v < 0) (h2 : v ≠ -100) : mloop (1 + n) v m = (v, m) := by
  rw [show 1 + n = n + 1 by omega]
  unfold mloop
  by_cases c : m 27 0 ≤ 0
  · rw [if_pos c]
  · rw [if_neg c, if_pos ⟨h1, h2⟩]
theorem mloop_go {n : Nat} {v : Int} {m : St} (ht : 0 < m 27 0) (hv : ¬ (v < 0 ∧ v ≠ -100)) : mloop (n + 1) v m = mcont (mloop n) (mwork m) (m 27 0) := by
  show (if m 27 0 ≤ 0 then _ else _) = _
  rw [if_neg (by omega), if_neg hv]
theorem mpop_27 (m : St) : mpop m 27 0 = m 27 0 - 1 := by
  show iup (m 27) 0 (m 27 0 - 1) 0 = _
  rw [iup_s]
theorem mcont_neg {rec : Int → St → Int × St} {w : Int × St} {tp : Int} (h : w.1 < 0) : mcont rec w tp = rec w.1 w.2 := by
  unfold mcont
  rw [if_pos h]
/-- the top is taken off -/
theorem mcont_pop {n t : Nat} {w : Int × St} (h : 0 ≤ w.1) (ht : w.2 27 0 = (t : Int) + 1) (hno : ¬ (w.2 5 (w.2 24 t).toNat = 2 ∧ w.2 25 t = 0)) : mcont (mloop n) w ((t : Int) + 1) = mfin n t w.1 (mpop w.2) := by
  have e : (w.2 27 0 - 1).toNat = t := by omega
  unfold mcont mfin
  rw [if_neg (by omega), if_neg (fun z => hno (by rw [e] at z; exact z.2)), mpop_27]
  by_cases c : t = 0
  · rw [if_pos (by omega), if_pos c]
  · rw [if_neg (by omega), if_neg c]
theorem sem_mput {m s : St} (h : sem m s) (me : Nat) (v : Int) : sem (mput m me v) s := by
  intro f hf
  unfold mput
  rw [sup_n (by omega), sup_n (by omega)]
  exact h f hf
theorem mput_24 (m : St) (me : Nat) (v : Int) : mput m me v 24 = m 24 := rfl
theorem mput_27 (m : St) (me : Nat) (v : Int) : mput m me v 27 = m 27 := rfl
theorem mput_25 (m : St) (me : Nat) (v : Int) : mput m me v 25 = iup (m 25) me (m 25 me + 1) := rfl
theorem mput_26 (m : St) (me : Nat) (v : Int) : mput m me v 26 = iup (m 26) (4 * me + (m 25 me).toNat) v := rfl
theorem low_mput {m : St} {t : Nat} (v : Int) : low t (mput m t v) m := by
  intro j hj
  refine ⟨rfl, ?_, fun k hk => ?_⟩
  · rw [mput_25, iup_n (by omega)]
  · rw [mput_26, iup_n (by omega)]
theorem stat_mput {m : St} (t : Nat) (v : Int) : ∀ f, f < 24 ∨ 27 < f → mput m t v f = m f := fun f hf => sem_mput (s := m) (fun _ _ => rfl) t v f hf
theorem mwork_at {m : St} {t p : Nat} (ht : m 27 0 = (t : Int) + 1) (hp : m 24 t = (p : Int)) : mwork m = mworkp m t p := by
  unfold mwork
  rw [show (m 27 0 - 1).toNat = t by omega, hp, Int.toNat_natCast]
theorem sem_mk {m s : St} {p : Nat} {v1 v2 : Nat → Int} (h : sem m s) (hv : ∀ k, k < (s 8 p).toNat → v1 k = v2 k) : sem (mk m p v1) (mk s p v2) := by
  intro f hf
  unfold mk
  rw [h 7 (by omega), h 8 (by omega), h 9 (by omega), h 10 (by omega), h 11 (by omega), h 12 (by omega), h 16 (by omega), h 17 (by omega), h 18 (by omega), h 19 (by omega), h 20 (by omega), h 21 (by omega), h 22 (by omega), h 23 (by omega), h f hf, cpn_congr hv]
theorem NEED {d t p : Nat} {wk : Nat → Bool} (hd : t + (d + 1) = 36) (ih : SIMp d) (hp : p < 36) : ∀ (n j : Nat) (s m : St) (vs : Nat → Int), Inv s → sem m s → PF m (t + 1) wk → m 24 t = (p : Int) → m 25 t = (j : Int) → s 8 p = (j : Int) + n → s 5 p = 3 → (∀ k, k < j → m 26 (4 * t + k) = vs k) → (∀ k, 0 ≤ vs k ∧ vs k ≤ 1000000000000) →
    ∃ (c : Nat) (m' : St),
      (0 ≤ (rend p (rneeds (rget (d + 1) wk) p n j s vs)).1 → sem m' (rend p (rneeds (rget (d + 1) wk) p n j s vs)).2 ∧ m' 27 0 = t ∧ low t m' m ∧ (c : Int) + 300 * s 23 0 + 300 ≤ 71 * n + 300 * (rend p (rneeds (rget (d + 1) wk) p n j s vs)).2 23 0 ∧ ∀ n', mcont (mloop (c + n')) (mneeds p t n m) ((t : Int) + 1) = mfin n' t (rend p (rneeds (rget (d + 1) wk) p n j s vs)).1 m') ∧
      ((rend p (rneeds (rget (d + 1) wk) p n j s vs)).1 < 0 → sem m' (rend p (rneeds (rget (d + 1) wk) p n j s vs)).2 ∧ (c : Int) + 300 * s 23 0 ≤ 1 + 71 * n + 300 * d + 300 * (rend p (rneeds (rget (d + 1) wk) p n j s vs)).2 23 0 ∧ ∀ n', mcont (mloop (c + n')) (mneeds p t n m) ((t : Int) + 1) = ((rend p (rneeds (rget (d + 1) wk) p n j s vs)).1, m')) := by
  intro n
  induction n with
  | zero =>
    intro j s m vs hs hm hP h24 h25 h8 h5 hv hr
    have e1 : rneeds (rget (d + 1) wk) p 0 j s vs = (0, s, vs) := rfl
    have e2 : mneeds p t 0 m = mmake m p t := rfl
    rw [e1, e2]
    have hmd := hs.md
    by_cases c : s 23 0 = 100
    · have e3 : rend p (0, s, vs) = (-5, s) := by
        unfold rend
        rw [if_neg (by show ¬ (0 : Int) < 0; omega), if_pos c]
      have e4 : mmake m p t = (-5, m) := by
        unfold mmake
        rw [hm 23 (by omega), if_pos c]
      rw [e3, e4]
      refine ⟨1, m, fun z => absurd z (by show ¬ (0 : Int) ≤ -5; omega), fun _ => ⟨hm, ?_, fun n' => ?_⟩⟩
      · show ((1 : Nat) : Int) + 300 * s 23 0 ≤ 1 + 71 * ((0 : Nat) : Int) + 300 * d + 300 * s 23 0
        omega
      · rw [mcont_neg (by show (-5 : Int) < 0; omega)]
        exact mloop_err (by show (-5 : Int) < 0; omega) (by show (-5 : Int) ≠ -100; omega)
    · have e3 : rend p (0, s, vs) = (s 23 0, mk s p vs) := by
        unfold rend
        rw [if_neg (by show ¬ (0 : Int) < 0; omega), if_neg c]
      have e4 : mmake m p t = (s 23 0, mk m p (fun k => m 26 (4 * t + k))) := by
        unfold mmake
        rw [hm 23 (by omega), if_neg c]
      rw [e3, e4]
      refine ⟨0, mpop (mk m p (fun k => m 26 (4 * t + k))), fun _ => ⟨?_, ?_, ?_, ?_, fun n' => ?_⟩, fun z => absurd z (by show ¬ s 23 0 < 0; omega)⟩
      · intro f hf
        unfold mpop
        rw [sup_n (by omega)]
        exact sem_mk hm (fun k hk => hv k (by omega)) f hf
      · rw [mpop_27, mk_o rfl, hP.1]; omega
      · intro j' hj'
        exact ⟨rfl, rfl, fun _ _ => rfl⟩
      · show ((0 : Nat) : Int) + 300 * s 23 0 + 300 ≤ 71 * ((0 : Nat) : Int) + 300 * mk s p vs 23 0
        rw [mk_23]; omega
      · rw [Nat.zero_add]
        refine mcont_pop (w := (s 23 0, mk m p (fun k => m 26 (4 * t + k)))) (by show 0 ≤ s 23 0; omega) (by show mk m p (fun k => m 26 (4 * t + k)) 27 0 = _; rw [mk_o rfl, hP.1]; omega) ?_
        intro z
        have z1 := z.1
        have e5 : mk m p (fun k => m 26 (4 * t + k)) 24 = m 24 := mk_o rfl
        have e6 : mk m p (fun k => m 26 (4 * t + k)) 5 = m 5 := mk_o rfl
        change mk m p (fun k => m 26 (4 * t + k)) 5 (mk m p (fun k => m 26 (4 * t + k)) 24 t).toNat = 2 at z1
        rw [e5, e6, h24, Int.toNat_natCast, hm 5 (by omega)] at z1
        omega
  | succ n ihn =>
    intro j s m vs hs hm hP h24 h25 h8 h5 hv hr
    have hj4 := hs.nn p
    have hk9 := hs.nk (4 * p + j)
    have eg : (m 25 t).toNat = j := by omega
    -- a value that is there at once
    have now : ∀ v : Int, 0 ≤ v → v ≤ 1000000000000 → mone m p t = (v, m) → rneeds (rget (d + 1) wk) p (n + 1) j s vs = rneeds (rget (d + 1) wk) p n (j + 1) s (iup vs j v) → ∃ (c : Nat) (m' : St),
      (0 ≤ (rend p (rneeds (rget (d + 1) wk) p (n + 1) j s vs)).1 → sem m' (rend p (rneeds (rget (d + 1) wk) p (n + 1) j s vs)).2 ∧ m' 27 0 = t ∧ low t m' m ∧ (c : Int) + 300 * s 23 0 + 300 ≤ 71 * ((n + 1 : Nat) : Int) + 300 * (rend p (rneeds (rget (d + 1) wk) p (n + 1) j s vs)).2 23 0 ∧ ∀ n', mcont (mloop (c + n')) (mneeds p t (n + 1) m) ((t : Int) + 1) = mfin n' t (rend p (rneeds (rget (d + 1) wk) p (n + 1) j s vs)).1 m') ∧
      ((rend p (rneeds (rget (d + 1) wk) p (n + 1) j s vs)).1 < 0 → sem m' (rend p (rneeds (rget (d + 1) wk) p (n + 1) j s vs)).2 ∧ (c : Int) + 300 * s 23 0 ≤ 1 + 71 * ((n + 1 : Nat) : Int) + 300 * d + 300 * (rend p (rneeds (rget (d + 1) wk) p (n + 1) j s vs)).2 23 0 ∧ ∀ n', mcont (mloop (c + n')) (mneeds p t (n + 1) m) ((t : Int) + 1) = ((rend p (rneeds (rget (d + 1) wk) p (n + 1) j s vs)).1, m')) := by
      intro v v0 v1 e1 e2
      have e3 : mneeds p t (n + 1) m = mneeds p t n (mput m t v) := by
        show (if (mone m p t).1 < 0 then _ else _) = _
        rw [e1, if_neg (by show ¬ v < 0; omega)]
      rw [e2, e3]
      obtain ⟨c, m', g1, g2⟩ := ihn (j + 1) s (mput m t v) (iup vs j v) hs (sem_mput hm t v) (hP.low (by rw [mput_27]; exact hP.1) (fun _ _ => rfl)) h24 (by rw [mput_25, iup_s, h25]; omega) (by omega) h5 (fun k hk => by
        rw [mput_26, eg]
        by_cases q : k = j
        · subst q; rw [iup_s, iup_s]
        · rw [iup_n (by omega), iup_n q]; exact hv k (by omega)) (fun k => by
        by_cases q : k = j
        · subst q; rw [iup_s]; omega
        · rw [iup_n q]; exact hr k)
      refine ⟨c, m', fun z => ?_, fun z => ?_⟩
      · obtain ⟨a1, a2, a3, a4, a5⟩ := g1 z
        exact ⟨a1, a2, a3.tr (low_mput v), by omega, a5⟩
      · obtain ⟨a1, a2, a3⟩ := g2 z
        exact ⟨a1, by omega, a3⟩
    by_cases hz : s 10 (4 * p + j) = 1
    · refine now (20000000000 + 16 * ((p / 12 : Nat) : Int) + s 9 (4 * p + j)) (by omega) (by omega) ?_ ?_
      · unfold mone
        rw [eg, hm 10 (by omega), hm 9 (by omega), if_pos hz]
      · show (if s 10 (4 * p + j) = 1 then _ else _) = _
        rw [if_pos hz]
    · have eo : mone m p t = mbegin m (p / 12) (s 9 (4 * p + j)).toNat := by
        unfold mone
        rw [eg, hm 10 (by omega), hm 9 (by omega), if_neg hz]
      have er : rneeds (rget (d + 1) wk) p (n + 1) j s vs = if (rget (d + 1) wk s (p / 12) (s 9 (4 * p + j)).toNat).1 < 0 then ((rget (d + 1) wk s (p / 12) (s 9 (4 * p + j)).toNat).1, (rget (d + 1) wk s (p / 12) (s 9 (4 * p + j)).toNat).2, vs) else rneeds (rget (d + 1) wk) p n (j + 1) (rget (d + 1) wk s (p / 12) (s 9 (4 * p + j)).toNat).2 (iup vs j (rget (d + 1) wk s (p / 12) (s 9 (4 * p + j)).toNat).1) := by
        show (if s 10 (4 * p + j) = 1 then _ else _) = _
        rw [if_neg hz]
      have hok := rget_ok (d + 1) wk s (p / 12) (s 9 (4 * p + j)).toNat hs (by omega) (by omega)
      rcases beg (i := p / 12) (k := (s 9 (4 * p + j)).toNat) hs hm hP (show t + 1 + d = 36 by omega) (by omega) (by omega) with ⟨b1, b2, b3⟩ | ⟨q, hq, b1, b2, b3, b4, b5, b6⟩
      · generalize rget (d + 1) wk s (p / 12) (s 9 (4 * p + j)).toNat = r at er hok b1 b2 b3
        obtain ⟨o1, o2, o3, o4⟩ := hok
        by_cases hneg : r.1 < 0
        · rw [if_pos hneg] at er
          have e3 : mneeds p t (n + 1) m = (r.1, m) := by
            show (if (mone m p t).1 < 0 then _ else _) = _
            rw [eo, b1, if_pos hneg]
          have e4 : rend p (r.1, r.2, vs) = (r.1, r.2) := by
            unfold rend
            rw [if_pos hneg]
          rw [er, e3, e4, b2]
          refine ⟨1, m, fun z => absurd z (by show ¬ 0 ≤ r.1; omega), fun _ => ⟨hm, ?_, fun n' => ?_⟩⟩
          · show ((1 : Nat) : Int) + 300 * s 23 0 ≤ 1 + 71 * ((n + 1 : Nat) : Int) + 300 * d + 300 * s 23 0
            omega
          · rw [mcont_neg (w := (r.1, m)) hneg]
            exact mloop_err hneg b3
        · rw [if_neg hneg, b2] at er
          exact now r.1 (by omega) o4 (by rw [eo, b1]) er
      · have e3 : mneeds p t (n + 1) m = (-100, mpush m q) := by
          show (if (mone m p t).1 < 0 then _ else _) = _
          rw [eo, b1, if_pos (by show (-100 : Int) < 0; omega)]
        obtain ⟨c1, m1, g1, g2⟩ := ih (wadd wk q) s (mpush m q) q (t + 1) hs (sem_push hm) (hP.push hq b6) (by omega) hq (by
          show iup (m 24) (m 27 0).toNat (q : Int) (t + 1) = _
          rw [hP.1, Int.toNat_natCast, iup_s]) (by
          show iup (m 25) (m 27 0).toNat 0 (t + 1) = _
          rw [hP.1, Int.toNat_natCast, iup_s]) b3 b4 b5
        rw [← b2] at g1 g2
        generalize rget (d + 1) wk s (p / 12) (s 9 (4 * p + j)).toNat = r at er hok g1 g2
        obtain ⟨o1, o2, o3, o4⟩ := hok
        have hmono := o2.2.1
        have hpl : low (t + 1) (mpush m q) m := by
          intro j' hj'
          refine ⟨?_, ?_, fun _ _ => rfl⟩
          · show iup (m 24) (m 27 0).toNat (q : Int) j' = _
            rw [hP.1, Int.toNat_natCast, iup_n (by omega)]
          · show iup (m 25) (m 27 0).toNat 0 j' = _
            rw [hP.1, Int.toNat_natCast, iup_n (by omega)]
        by_cases hneg : r.1 < 0
        · obtain ⟨a1, a2, a3⟩ := g2 hneg
          rw [if_pos hneg] at er
          have e4 : rend p (r.1, r.2, vs) = (r.1, r.2) := by
            unfold rend
            rw [if_pos hneg]
          rw [er, e3, e4]
          refine ⟨c1, m1, fun z => absurd z (by show ¬ 0 ≤ r.1; omega), fun _ => ⟨a1, ?_, fun n' => ?_⟩⟩
          · show (c1 : Int) + 300 * s 23 0 ≤ 1 + 71 * ((n + 1 : Nat) : Int) + 300 * d + 300 * r.2 23 0
            omega
          · rw [mcont_neg (by show (-100 : Int) < 0; omega)]
            exact a3 n'
        · obtain ⟨a1, a2, a3, a4, a5⟩ := g1 (by omega)
          rw [if_neg hneg] at er
          have l1 := a3.tr hpl
          have l1t := l1 t (by omega)
          have stt := o2.1
          have ed : mdel m1 r.1 = mput m1 t r.1 := by
            unfold mdel
            rw [show (m1 27 0 - 1).toNat = t by omega]
          have eg1 : (m1 25 t).toNat = j := by rw [l1t.2.1]; exact eg
          obtain ⟨c2, m', k1, k2⟩ := ihn (j + 1) r.2 (mput m1 t r.1) (iup vs j r.1) o1 (sem_mput a1 t r.1) (hP.low (by rw [mput_27]; omega) (fun i hi => (l1 i hi).1)) (by rw [mput_24, l1t.1]; exact h24) (by rw [mput_25, iup_s, l1t.2.1, h25]; omega) (by rw [stt 8 rfl]; omega) (by rw [stt 5 rfl]; exact h5) (fun k hk => by
            rw [mput_26, eg1]
            by_cases qk : k = j
            · subst qk; rw [iup_s, iup_s]
            · rw [iup_n (by omega), iup_n qk, l1t.2.2 k (by omega)]; exact hv k (by omega)) (fun k => by
            by_cases qk : k = j
            · subst qk; rw [iup_s]; omega
            · rw [iup_n qk]; exact hr k)
          have step : ∀ n', mcont (mloop (c1 + (c2 + 1) + n')) (mneeds p t (n + 1) m) ((t : Int) + 1) = mcont (mloop (c2 + n')) (mneeds p t n (mput m1 t r.1)) ((t : Int) + 1) := by
            intro n'
            rw [e3, mcont_neg (by show (-100 : Int) < 0; omega)]
            show mloop (c1 + (c2 + 1) + n') (-100) (mpush m q) = _
            rw [show c1 + (c2 + 1) + n' = c1 + (c2 + n' + 1) by omega, a5]
            unfold mfin
            have t27 : mput m1 t r.1 27 0 = (t : Int) + 1 := by rw [mput_27]; omega
            rw [if_neg (by omega), ed, mloop_go (by omega) (by omega), t27]
            rw [mwork_at (p := p) t27 (by rw [mput_24, l1t.1]; exact h24)]
            unfold mworkp
            have e5 : mput m1 t r.1 5 = s 5 := by rw [stat_mput t r.1 5 (by omega), a1 5 (by omega), stt 5 rfl]
            have e8 : mput m1 t r.1 8 = s 8 := by rw [stat_mput t r.1 8 (by omega), a1 8 (by omega), stt 8 rfl]
            rw [e5, e8, if_neg (by omega), mput_25, iup_s, l1t.2.1, h25, h8]
            rw [show ((j : Int) + ((n + 1 : Nat) : Int) - ((j : Int) + 1)).toNat = n by omega]
          rw [er]
          refine ⟨c1 + (c2 + 1), m', fun z => ?_, fun z => ?_⟩
          · obtain ⟨x1, x2, x3, x4, x5⟩ := k1 z
            refine ⟨x1, x2, x3.tr ((low_mput r.1).tr (fun i hi => l1 i (by omega))), ?_, fun n' => ?_⟩
            · omega
            · rw [step n', x5]
          · obtain ⟨x1, x2, x3⟩ := k2 z
            refine ⟨x1, ?_, fun n' => ?_⟩
            · omega
            · rw [step n', x3]
theorem SIM : ∀ d, SIMp d
  | 0 => fun _ _ _ _ _ _ _ _ _ _ _ _ _ _ h => absurd h (by omega)
  | d + 1 => by
    have ih := SIM d
    intro wk s m p t hs hm hP htd hp h24 h25 h5 hno _
    have t27 : m 27 0 = (t : Int) + 1 := by rw [hP.1]; omega
    have hgo : ∀ n, mloop (n + 1) (-100) m = mcont (mloop n) (mworkp m t p) ((t : Int) + 1) := fun n => by
      rw [mloop_go (by omega) (by omega), t27, mwork_at t27 h24]
    have hmd := hs.md
    by_cases c : s 5 p = 2
    · have er : rgo (rget (d + 1) wk) s p = rget (d + 1) wk s (p / 12) (s 6 p).toNat := by
        unfold rgo
        rw [if_pos c]
      have hlk := hs.lk c
      have ew : mworkp m t p = mbegin m (p / 12) (s 6 p).toNat := by
        unfold mworkp
        rw [hm 5 (by omega), if_pos c, if_pos h25, hm 6 (by omega)]
      have hok := rget_ok (d + 1) wk s (p / 12) (s 6 p).toNat hs (by omega) (by omega)
      -- the link has its value
      have fini : ∀ (n : Nat) (v u : Int) (m1 : St), 0 ≤ v → ¬ (u < 0 ∧ u ≠ -100) → m1 27 0 = (t : Int) + 1 → m1 24 t = (p : Int) → m1 5 = s 5 → m1 25 t = 1 → m1 26 (4 * t) = v → mloop (n + 1) u m1 = mfin n t v (mpop m1) := by
        intro n v u m1 f0 fu f1 f2 f3 f4 f5
        rw [mloop_go (by omega) fu, f1, mwork_at f1 f2]
        have e9 : mworkp m1 t p = (v, m1) := by
          unfold mworkp
          rw [f3, if_pos c, if_neg (by omega), f5]
        rw [e9]
        exact mcont_pop (w := (v, m1)) f0 f1 (fun z => by have z2 : m1 25 t = 0 := z.2; omega)
      rw [er]
      rcases beg (i := p / 12) (k := (s 6 p).toNat) hs hm hP (show t + 1 + d = 36 by omega) (by omega) (by omega) with ⟨b1, b2, b3⟩ | ⟨q, hq, b1, b2, b3, b4, b5, b6⟩
      · generalize rget (d + 1) wk s (p / 12) (s 6 p).toNat = r at hok b1 b2 b3
        by_cases hneg : r.1 < 0
        · refine ⟨2, m, fun z => absurd z (by omega), fun _ => ⟨by rw [b2]; exact hm, ?_, fun n => ?_⟩⟩
          · rw [b2]; omega
          · rw [show 2 + n = (1 + n) + 1 by omega, hgo, ew, b1, mcont_neg (w := (r.1, m)) hneg]
            exact mloop_err hneg b3
        · refine ⟨2, mpop (mtk m r.1), fun _ => ⟨?_, ?_, ?_, ?_, fun n => ?_⟩, fun z => absurd z hneg⟩
          · intro f hf
            unfold mpop mtk
            rw [sup_n (by omega), sup_n (by omega), sup_n (by omega), b2]
            exact hm f hf
          · rw [mpop_27]
            show m 27 0 - 1 = _
            omega
          · intro j hj
            have et : (m 27 0 - 1).toNat = t := by omega
            refine ⟨rfl, ?_, fun k hk => ?_⟩
            · show iup (m 25) (m 27 0 - 1).toNat 1 j = _
              rw [et, iup_n (by omega)]
            · show iup (m 26) (4 * (m 27 0 - 1).toNat) r.1 (4 * j + k) = _
              rw [et, iup_n (by omega)]
          · rw [b2]; omega
          · rw [show 2 + n = (n + 1) + 1 by omega, hgo, ew, b1]
            have et : (m 27 0 - 1).toNat = t := by omega
            have e1 : mcont (mloop (n + 1)) (r.1, m) ((t : Int) + 1) = mloop (n + 1) r.1 (mtk m r.1) := by
              unfold mcont
              rw [if_neg hneg, if_pos ⟨t27, by show m 5 (m 24 (m 27 0 - 1).toNat).toNat = 2; rw [et, h24, Int.toNat_natCast, hm 5 (by omega)]; exact c, by show m 25 (m 27 0 - 1).toNat = 0; rw [et]; exact h25⟩]
            rw [e1]
            refine fini n r.1 r.1 (mtk m r.1) (by omega) (by omega) t27 h24 (hm 5 (by omega)) ?_ ?_
            · show iup (m 25) (m 27 0 - 1).toNat 1 t = 1
              rw [et, iup_s]
            · show iup (m 26) (4 * (m 27 0 - 1).toNat) r.1 (4 * t) = r.1
              rw [et, iup_s]
      · obtain ⟨c1, m1, g1, g2⟩ := ih (wadd wk q) s (mpush m q) q (t + 1) hs (sem_push hm) (hP.push hq b6) (by omega) hq (by
          show iup (m 24) (m 27 0).toNat (q : Int) (t + 1) = _
          rw [hP.1, Int.toNat_natCast, iup_s]) (by
          show iup (m 25) (m 27 0).toNat 0 (t + 1) = _
          rw [hP.1, Int.toNat_natCast, iup_s]) b3 b4 b5
        rw [← b2] at g1 g2
        generalize rget (d + 1) wk s (p / 12) (s 6 p).toNat = r at hok g1 g2
        obtain ⟨o1, o2, o3, o4⟩ := hok
        by_cases hneg : r.1 < 0
        · obtain ⟨a1, a2, a3⟩ := g2 hneg
          refine ⟨c1 + 1, m1, fun z => absurd z (by omega), fun _ => ⟨a1, by omega, fun n => ?_⟩⟩
          · rw [show c1 + 1 + n = (c1 + n) + 1 by omega, hgo, ew, b1, mcont_neg (by show (-100 : Int) < 0; omega)]
            exact a3 n
        · obtain ⟨a1, a2, a3, a4, a5⟩ := g1 (by omega)
          have l1t := a3 t (by omega)
          have p24 : mpush m q 24 t = m 24 t := by
            show iup (m 24) (m 27 0).toNat (q : Int) t = _
            rw [hP.1, Int.toNat_natCast, iup_n (by omega)]
          have p25 : mpush m q 25 t = m 25 t := by
            show iup (m 25) (m 27 0).toNat 0 t = _
            rw [hP.1, Int.toNat_natCast, iup_n (by omega)]
          have ed : mdel m1 r.1 = mput m1 t r.1 := by
            unfold mdel
            rw [show (m1 27 0 - 1).toNat = t by omega]
          have eg1 : m1 25 t = 0 := by rw [l1t.2.1, p25]; exact h25
          refine ⟨c1 + 2, mpop (mput m1 t r.1), fun _ => ⟨?_, ?_, ?_, by omega, fun n => ?_⟩, fun z => absurd z hneg⟩
          · intro f hf
            unfold mpop
            rw [sup_n (by omega)]
            exact sem_mput a1 t r.1 f hf
          · rw [mpop_27, mput_27]; omega
          · intro j hj
            have lm := low_mput (m := m1) (t := t) r.1 j hj
            have l2 := a3 j (by omega)
            refine ⟨lm.1.trans (l2.1.trans ?_), lm.2.1.trans (l2.2.1.trans ?_), fun k hk => (lm.2.2 k hk).trans (l2.2.2 k hk)⟩
            · show iup (m 24) (m 27 0).toNat (q : Int) j = _
              rw [hP.1, Int.toNat_natCast, iup_n (by omega)]
            · show iup (m 25) (m 27 0).toNat 0 j = _
              rw [hP.1, Int.toNat_natCast, iup_n (by omega)]
          · rw [show c1 + 2 + n = (c1 + (n + 1)) + 1 by omega, hgo, ew, b1, mcont_neg (by show (-100 : Int) < 0; omega)]
            show mloop (c1 + (n + 1)) (-100) (mpush m q) = _
            rw [a5]
            unfold mfin
            rw [if_neg (show ¬ t + 1 = 0 by omega), ed]
            refine fini n r.1 r.1 (mput m1 t r.1) (by omega) (by omega) (by rw [mput_27]; omega) (by rw [mput_24, l1t.1, p24]; exact h24) ?_ ?_ ?_
            · rw [stat_mput t r.1 5 (by omega), a1 5 (by omega), o2.1 5 rfl]
            · rw [mput_25, iup_s, eg1]; omega
            · rw [mput_26, eg1]
              show iup (m1 26) (4 * t + 0) r.1 (4 * t) = r.1
              rw [Nat.add_zero, iup_s]
    · have h3 : s 5 p = 3 := by omega
      have hno2 : ¬ (s 7 p = 2 ∧ s 15 0 = 0) := fun z => hno ⟨h3, z⟩
      have hnn := hs.nn p
      have er : rgo (rget (d + 1) wk) s p = rend p (rneeds (rget (d + 1) wk) p (s 8 p).toNat 0 s (fun _ => 0)) := by
        unfold rgo
        rw [if_neg c, if_neg hno2]
      have ew : mworkp m t p = mneeds p t (s 8 p).toNat m := by
        unfold mworkp
        rw [hm 5 (by omega), if_neg c, hm 8 (by omega), h25, Int.sub_zero]
      obtain ⟨c1, m1, g1, g2⟩ := NEED (wk := wk) htd ih hp (s 8 p).toNat 0 s m (fun _ => 0) hs hm hP h24 h25 (by omega) h3 (fun k hk => absurd hk (by omega)) (fun _ => by omega)
      rw [er]
      have hok := rneeds_ok (rget_ok (d + 1) wk) hp (s 8 p).toNat 0 s (fun _ => 0) hs (fun _ => by omega)
      refine ⟨c1 + 1, m1, fun z => ?_, fun z => ?_⟩
      · obtain ⟨a1, a2, a3, a4, a5⟩ := g1 z
        refine ⟨a1, a2, a3, by omega, fun n => ?_⟩
        rw [show c1 + 1 + n = (c1 + n) + 1 by omega, hgo, ew, a5]
      · obtain ⟨a1, a2, a3⟩ := g2 z
        refine ⟨a1, by omega, fun n => ?_⟩
        rw [show c1 + 1 + n = (c1 + n) + 1 by omega, hgo, ew, a3]
/-- gets: value and state are those of the getting, but for the machine's own fields -/
theorem mgets_ok {s : St} (hs : Inv s) {i k : Nat} (hi : i < 3) (hk : k < 12) : (mgets s i k).1 = (rget 37 (fun _ => false) s i k).1 ∧ sem (mgets s i k).2 (rget 37 (fun _ => false) s i k).2 := by
  unfold mgets
  have hP : PF (sup s 27 0 0) 0 (fun _ => false) := by
    refine ⟨show iup (s 27) 0 0 0 = _ from iup_s _ _ _, fun j hj => absurd hj (by omega), fun a b ha => absurd ha (by omega), fun q => ⟨fun h => by simp at h, fun ⟨j, hj, _⟩ => absurd hj (by omega)⟩⟩
  have hm : sem (sup s 27 0 0) s := fun f hf => sup_n (by omega)
  have h0 : sup s 27 0 0 27 0 = 0 := show iup (s 27) 0 0 0 = _ from iup_s _ _ _
  have hok := rget_ok 37 (fun _ => false) s i k hs hi hk
  rcases beg (i := i) (k := k) hs hm hP (show 0 + 36 = 36 by omega) hi hk with ⟨b1, b2, b3⟩ | ⟨q, hq, b1, b2, b3, b4, b5, b6⟩
  · rw [b1]
    have e1 : ∀ v : Int, mloop 100000 v (sup s 27 0 0) = (v, sup s 27 0 0) := fun v => by
      show (if sup s 27 0 0 27 0 ≤ 0 then _ else _) = _
      rw [if_pos (by omega)]
    show (mloop 100000 (rget 37 (fun _ => false) s i k).1 (sup s 27 0 0)).1 = _ ∧ sem (mloop 100000 (rget 37 (fun _ => false) s i k).1 (sup s 27 0 0)).2 _
    rw [e1]
    refine ⟨rfl, ?_⟩
    show sem (sup s 27 0 0) (rget (36 + 1) (fun _ => false) s i k).2
    rw [b2]
    exact hm
  · rw [b1]
    show (mloop 100000 (-100) (mpush (sup s 27 0 0) q)).1 = _ ∧ sem (mloop 100000 (-100) (mpush (sup s 27 0 0) q)).2 _
    have b2 : rget 37 (fun _ => false) s i k = rgo (rget 36 (wadd (fun _ => false) q)) s q := b2
    obtain ⟨c, m', g1, g2⟩ := SIM 36 (wadd (fun _ => false) q) s (mpush (sup s 27 0 0) q) q 0 hs (sem_push hm) (hP.push hq b6) (by omega) hq (by
      show iup (s 24) (sup s 27 0 0 27 0).toNat (q : Int) 0 = _
      rw [h0]; exact iup_s _ _ _) (by
      show iup (s 25) (sup s 27 0 0 27 0).toNat 0 0 = _
      rw [h0]; exact iup_s _ _ _) b3 b4 b5
    rw [← b2] at g1 g2
    have hmd := hok.1.md
    have hmd2 := hs.md
    by_cases hneg : (rget 37 (fun _ => false) s i k).1 < 0
    · obtain ⟨a1, a2, a3⟩ := g2 hneg
      rw [show 100000 = c + (100000 - c) by omega, a3]
      exact ⟨rfl, a1⟩
    · obtain ⟨a1, a2, a3, a4, a5⟩ := g1 (by omega)
      rw [show 100000 = c + (100000 - c) by omega, a5]
      exact ⟨rfl, a1⟩
end
