/-! ROWS OF THE WALK, own words. zh: the heap as a partial map from addresses to pictures of cells. zG: the heap holds the map. zJ: from this place of a method, with this map, these locals, this stack, the method comes to Q. Numbers on the stack are Ints (iv, jv). -/
abbrev zh : Type := Nat → Option va_E
def zput (σ : zh) (a : Nat) (e : va_E) : zh := fun b => if b = a then some e else σ b
theorem zput_s (σ : zh) (a : Nat) (e : va_E) : zput σ a e a = some e := by simp [zput]
theorem zput_n {σ : zh} {a b : Nat} {e : va_E} (h : b ≠ a) : zput σ a e b = σ b := by simp [zput, h]
theorem zput_o {σ : zh} {a b : Nat} {e e0 e1 : va_E} (h0 : σ a = some e0) (h1 : σ b = some e1) (h : e0 ≠ e1) : zput σ a e b = some e1 := by
  rw [zput_n (fun q => h (by rw [q, h0] at h1; exact Option.some.inj h1))]; exact h1
def zG (D : va_G) (cl : List vw_C) (A : Nat → Prop) (σ : zh) (H : Heap) : Prop := ∃ ws : va_W, va_P D cl ws H ∧ va_D A ws ∧ ∀ (a : Nat) (e : va_E), σ a = some e → ∃ k : Nat, ws[k]? = some (a, e)
theorem zG.lt {D : va_G} {cl : List vw_C} {A : Nat → Prop} {σ : zh} {H : Heap} (h : zG D cl A σ H) {a : Nat} {e : va_E} (ha : σ a = some e) : a < H.size := by
  obtain ⟨ws, hP, -, hw⟩ := h
  obtain ⟨k, hk⟩ := hw a e ha
  exact (hP k _ hk).lt
theorem zG.set {D : va_G} {cl : List vw_C} {A : Nat → Prop} {σ : zh} {H1 : Heap} {ws : va_W} {k a : Nat} {e0 e : va_E} (hw : ∀ (a : Nat) (e : va_E), σ a = some e → ∃ k : Nat, ws[k]? = some (a, e)) (hk : ws[k]? = some (a, e0)) (hP : va_P D cl (ws.set k (a, e)) H1) (hD : va_D A (ws.set k (a, e))) : zG D cl A (zput σ a e) H1 := by
  have hl := (List.getElem?_eq_some_iff.mp hk).1
  refine ⟨_, hP, hD, fun b x hb => ?_⟩
  by_cases h : b = a
  · subst h
    rw [zput_s] at hb
    cases hb
    exact ⟨k, List.getElem?_set_self hl⟩
  · rw [zput_n h] at hb
    obtain ⟨j, hj⟩ := hw b x hb
    refine ⟨j, ?_⟩
    rw [List.getElem?_set_ne ?_]
    · exact hj
    · rintro rfl
      rw [hk] at hj
      cases hj
      exact h rfl
theorem zG.push {D : va_G} {cl : List vw_C} {A : Nat → Prop} {σ : zh} {H1 : Heap} {ws : va_W} {a : Nat} {e : va_E} (hw : ∀ (a : Nat) (e : va_E), σ a = some e → ∃ k : Nat, ws[k]? = some (a, e)) (hP : va_P D cl (ws ++ [(a, e)]) H1) (hD : va_D A (ws ++ [(a, e)])) : zG D cl A (zput σ a e) H1 ∧ ∀ (b : Nat) (x : va_E), σ b = some x → b ≠ a := by
  have hla : (ws ++ [(a, e)])[ws.length]? = some (a, e) := by simp
  refine ⟨⟨_, hP, hD, fun b x hb => ?_⟩, fun b x hb => ?_⟩
  · by_cases h : b = a
    · subst h
      rw [zput_s] at hb
      cases hb
      exact ⟨ws.length, hla⟩
    · rw [zput_n h] at hb
      obtain ⟨j, hj⟩ := hw b x hb
      exact ⟨j, by rw [List.getElem?_append_left (List.getElem?_eq_some_iff.mp hj).1]; exact hj⟩
  · rintro rfl
    obtain ⟨j, hj⟩ := hw b x hb
    have hlt := (List.getElem?_eq_some_iff.mp hj).1
    have := hD.1 j ws.length (b, x) (b, e) (by rw [List.getElem?_append_left hlt]; exact hj) hla rfl
    omega
/-! numbers -/
abbrev iv (a : Int) : Value := .int (Int32.ofInt a)
abbrev jv (a : Int) : Value := .long (Int64.ofInt a)
abbrev ia (c : ClassId) (n : Nat) (f : Nat → Int) : va_E := .inl (c, n, .inl (fun j => Int32.ofInt (f j)))
abbrev la (c : ClassId) (n : Nat) (f : Nat → Int) : va_E := .inl (c, n, .inr (.inl (fun j => Int64.ofInt (f j))))
abbrev ra (c : ClassId) (n : Nat) (f : Nat → Option Nat) : va_E := .inl (c, n, .inr (.inr (.inr (.inr f))))
abbrev ob (ci : Nat) (fs : List Value) : va_E := .inr (ci, fs)
def iup (f : Nat → Int) (k : Nat) (v : Int) : Nat → Int := fun j => if j = k then v else f j
theorem iup_s (f : Nat → Int) (k : Nat) (v : Int) : iup f k v k = v := by simp [iup]
theorem iup_n {f : Nat → Int} {k j : Nat} {v : Int} (h : j ≠ k) : iup f k v j = f j := by simp [iup, h]
theorem z32 {a : Int} (h : -2147483648 ≤ a ∧ a ≤ 2147483647) : (Int32.ofInt a).toInt = a := Int32.toInt_ofInt_of_le (by omega) (by omega)
theorem z64 {a : Int} (h : -9223372036854775808 ≤ a ∧ a ≤ 9223372036854775807) : (Int64.ofInt a).toInt = a := Int64.toInt_ofInt_of_le (by omega) (by omega)
theorem z32r (x : Int32) : -2147483648 ≤ x.toInt ∧ x.toInt ≤ 2147483647 := by
  have h1 := x.le_toInt
  have h2 := x.toInt_lt
  omega
theorem z32_le {a b : Int} (ha : -2147483648 ≤ a ∧ a ≤ 2147483647) (hb : -2147483648 ≤ b ∧ b ≤ 2147483647) : Int32.ofInt a ≤ Int32.ofInt b ↔ a ≤ b := by rw [Int32.le_iff_toInt_le, z32 ha, z32 hb]
theorem z32_lt {a b : Int} (ha : -2147483648 ≤ a ∧ a ≤ 2147483647) (hb : -2147483648 ≤ b ∧ b ≤ 2147483647) : Int32.ofInt a < Int32.ofInt b ↔ a < b := by rw [Int32.lt_iff_toInt_lt, z32 ha, z32 hb]
theorem z32_eq {a b : Int} (ha : -2147483648 ≤ a ∧ a ≤ 2147483647) (hb : -2147483648 ≤ b ∧ b ≤ 2147483647) : Int32.ofInt a = Int32.ofInt b ↔ a = b := by rw [← Int32.toInt_inj, z32 ha, z32 hb]
theorem z64_lt {a b : Int} (ha : -9223372036854775808 ≤ a ∧ a ≤ 9223372036854775807) (hb : -9223372036854775808 ≤ b ∧ b ≤ 9223372036854775807) : Int64.ofInt a < Int64.ofInt b ↔ a < b := by rw [Int64.lt_iff_toInt_lt, z64 ha, z64 hb]
theorem z64_eq {a b : Int} (ha : -9223372036854775808 ≤ a ∧ a ≤ 9223372036854775807) (hb : -9223372036854775808 ≤ b ∧ b ≤ 9223372036854775807) : Int64.ofInt a = Int64.ofInt b ↔ a = b := by rw [← Int64.toInt_inj, z64 ha, z64 hb]
theorem z32_0 : Int32.ofInt 0 = 0 := by decide
theorem zidx {i : Int} {k : Nat} (hk : i = (k : Int)) (h : k ≤ 2147483647) : (Int32.ofInt i).toNatClampNeg = k := by
  rw [Int32.toNatClampNeg_ofInt_of_le (by omega) (by omega)]; omega
theorem zin {i : Int} {k n : Nat} (hk : i = (k : Int)) (h : k ≤ 2147483647) (hn : k < n) : vp_in (Int32.ofInt i) n := by
  rw [vp_in_iff, z32 (by omega)]; omega
theorem zup_i (f : Nat → Int) (k : Nat) (v : Int) : upd (fun j => Int32.ofInt (f j)) k (Int32.ofInt v) = fun j => Int32.ofInt (iup f k v j) := by
  funext j
  by_cases h : j = k
  · subst h; simp [upd, iup]
  · simp [upd, iup, h]
theorem zup_l (f : Nat → Int) (k : Nat) (v : Int) : vp_updL (fun j => Int64.ofInt (f j)) k (Int64.ofInt v) = fun j => Int64.ofInt (iup f k v j) := by
  funext j
  by_cases h : j = k
  · subst h; simp [vp_updL, iup]
  · simp [vp_updL, iup, h]
theorem znar {v : Int} (h : v = 0 ∨ v = 1) : vp_nar .boolean (Int32.ofInt v) = Int32.ofInt v := by
  rcases h with rfl | rfl <;> decide
theorem znarz {v : Int} (h : v = 0 ∨ v = 1) : narrow .boolean (.int (Int32.ofInt v)) = .int (Int32.ofInt v) := by
  rcases h with rfl | rfl <;> decide
theorem zfitz {v : Int} (h : v = 0 ∨ v = 1) : fits .boolean (.int (Int32.ofInt v)) = true := by
  rcases h with rfl | rfl <;> decide
/-! locals: a list, what is known of each place -/
def zL (ls : Array Slot) (nL : Nat) (lv : List (Option Value)) : Prop := ls.size = nL ∧ lv_wf ls ∧ lv.length = nL ∧ ∀ (i : Nat) (v : Value), lv[i]? = some (some v) → ls[i]? = some (.val v)
def zas (lv : List (Option Value)) : List (Nat × Value) := (List.range lv.length).filterMap fun i => (lv[i]?.join).map fun v => (i, v)
theorem zas_mem {lv : List (Option Value)} {i : Nat} {v : Value} : (i, v) ∈ zas lv ↔ lv[i]? = some (some v) := by
  unfold zas
  simp only [List.mem_filterMap, List.mem_range, Option.map_eq_some_iff, Prod.mk.injEq]
  constructor
  · rintro ⟨j, hj, w, hw, rfl, rfl⟩
    cases hq : lv[j]? with
    | none => rw [hq] at hw; cases hw
    | some o => rw [hq] at hw; cases o with
      | none => cases hw
      | some x => cases hw; rfl
  · intro h
    exact ⟨i, (List.getElem?_eq_some_iff.mp h).1, v, by rw [h]; rfl, rfl, rfl⟩
theorem zL.has {ls : Array Slot} {nL : Nat} {lv : List (Option Value)} (h : zL ls nL lv) : lv_has ls nL (zas lv) := ⟨h.1, h.2.1, fun q hq => h.2.2.2 q.1 q.2 (zas_mem.mp hq)⟩
def zkill (lv : List (Option Value)) (i : Nat) : List (Option Value) := match i with
  | 0 => lv
  | j + 1 => match lv[j]? with
    | some (some w) => if w.category = 2 then lv.set j none else lv
    | _ => lv
def zst1 (lv : List (Option Value)) (i : Nat) (v : Value) : List (Option Value) := (zkill lv i).set i (some v)
def zst2 (lv : List (Option Value)) (i : Nat) (v : Value) : List (Option Value) := ((zkill lv i).set i (some v)).set (i + 1) none
theorem zkill_len (lv : List (Option Value)) (i : Nat) : (zkill lv i).length = lv.length := by
  unfold zkill
  split
  · rfl
  · split
    · split <;> simp
    · rfl
theorem zkill_at {lv : List (Option Value)} {i j : Nat} {v : Value} (h : (zkill lv i)[j]? = some (some v)) (hj : j ≠ i) : lv[j]? = some (some v) ∧ ¬ (j + 1 = i ∧ v.category = 2) := by
  unfold zkill at h
  split at h
  · exact ⟨h, fun q => by omega⟩
  · rename_i n
    split at h
    · rename_i w hw
      split at h
      · rename_i hc
        by_cases hjn : j = n
        · subst hjn
          rw [List.getElem?_set_self (List.getElem?_eq_some_iff.mp hw).1] at h
          cases h
        · rw [List.getElem?_set_ne (Ne.symm hjn)] at h
          exact ⟨h, fun q => by omega⟩
      · rename_i hc
        refine ⟨h, fun q => ?_⟩
        have : j = n := by omega
        subst this
        rw [hw] at h
        cases h
        exact hc q.2
    · rename_i hno
      refine ⟨h, fun q => ?_⟩
      have : j = n := by omega
      subst this
      exact hno v h
theorem zst1_ok {ls' : Array Slot} {nL i : Nat} {lv : List (Option Value)} {v : Value} (hlen : lv.length = nL) (h : lv_has ls' nL ((i, v) :: (zas lv).filter (fun q => !(q.1 == i) && !(q.1 + 1 == i && q.2.category == 2)))) : zL ls' nL (zst1 lv i v) := by
  refine ⟨h.1, h.2.1, by simp [zst1, zkill_len, hlen], fun j w hj => ?_⟩
  by_cases hji : j = i
  · subst hji
    unfold zst1 at hj
    have hl : j < (zkill lv j).length := by
      have := (List.getElem?_eq_some_iff.mp hj).1
      simpa using this
    rw [List.getElem?_set_self hl] at hj
    cases hj
    exact h.2.2 (j, v) List.mem_cons_self
  · unfold zst1 at hj
    rw [List.getElem?_set_ne (Ne.symm hji)] at hj
    obtain ⟨h1, h2⟩ := zkill_at hj hji
    refine h.2.2 (j, w) (List.mem_cons_of_mem _ (List.mem_filter.mpr ⟨zas_mem.mpr h1, ?_⟩))
    simp only [Bool.and_eq_true, Bool.not_eq_true', beq_eq_false_iff_ne, Bool.and_eq_false_iff]
    refine ⟨hji, ?_⟩
    by_cases q : j + 1 = i
    · exact Or.inr (fun z => h2 ⟨q, z⟩)
    · exact Or.inl q
theorem zst2_ok {ls' : Array Slot} {nL i : Nat} {lv : List (Option Value)} {v : Value} (hlen : lv.length = nL) (h : lv_has ls' nL ((i, v) :: (zas lv).filter (fun q => !(q.1 == i) && (!(q.1 == i + 1) && !(q.1 + 1 == i && q.2.category == 2))))) : zL ls' nL (zst2 lv i v) := by
  refine ⟨h.1, h.2.1, by simp [zst2, zkill_len, hlen], fun j w hj => ?_⟩
  unfold zst2 at hj
  by_cases hj1 : j = i + 1
  · subst hj1
    have hl : i + 1 < ((zkill lv i).set i (some v)).length := by
      have := (List.getElem?_eq_some_iff.mp hj).1
      simpa using this
    rw [List.getElem?_set_self hl] at hj
    cases hj
  rw [List.getElem?_set_ne (Ne.symm hj1)] at hj
  by_cases hji : j = i
  · subst hji
    have hl : j < (zkill lv j).length := by
      have := (List.getElem?_eq_some_iff.mp hj).1
      simpa using this
    rw [List.getElem?_set_self hl] at hj
    cases hj
    exact h.2.2 (j, v) List.mem_cons_self
  · rw [List.getElem?_set_ne (Ne.symm hji)] at hj
    obtain ⟨h1, h2⟩ := zkill_at hj hji
    refine h.2.2 (j, w) (List.mem_cons_of_mem _ (List.mem_filter.mpr ⟨zas_mem.mpr h1, ?_⟩))
    simp only [Bool.and_eq_true, Bool.not_eq_true', beq_eq_false_iff_ne, Bool.and_eq_false_iff]
    refine ⟨hji, hj1, ?_⟩
    by_cases q : j + 1 = i
    · exact Or.inr (fun z => h2 ⟨q, z⟩)
    · exact Or.inl q
/-! the judgement -/
abbrev zC : Type := Program × Launch × Env × Room × State × MethodId × Array Value × List Frame × Method × Code
/-- facts of the tables and of what lies outside A: they stay -/
def zFok (F : State → Prop) (A : Nat → Prop) : Prop := (∀ (U : State) (g : JFrame) (mk : MethodId) (a : Array Value), F U → F (U.calling g mk a)) ∧ ∀ s U : State, s.WarmedH U.vm → s.heap.size ≤ U.heap.size → (∀ q : Nat, q < s.heap.size → ¬ A q → U.heap[q]? = s.heap[q]?) → F s → F U
def zCx (K : zC) (D : va_G) (cl : List vw_C) (A : Nat → Prop) (tys : List (ClassId × FieldType)) (F : State → Prop) (rm : Room) (cc : ByteArray) (own nm : String) (Ts : List Cond) (nL : Nat) (ret : Option FieldType) : Prop := match K with
  | (p, _, _, R, s, m, args, _, meth, c) => p.tables.exec = Jvm.exec ∧ c.code = cc ∧ c.maxLocals = nL ∧ s.vm.findClass own = some m.cls ∧ (∀ w ∈ Ts, w.before args s = true) ∧ meth.sig.returnType = ret ∧ meth.locks = false ∧ va_K D cl tys s ∧ (∀ q, s.heap.size ≤ q → A q) ∧ F s ∧ R = rm ∧ zFok F A ∧ meth.name = nm
def zJ (K : zC) (D : va_G) (cl : List vw_C) (A : Nat → Prop) (nL : Nat) (Q : State → Prop) (cells slots : Nat) (σ : zh) (pc : Nat) (lv : List (Option Value)) (st : List Value) : Prop := match K with
  | (p, l, e, R, s, m, args, below, meth, c) => ∀ (H : Heap) (locs : List Loc) (ls : Array Slot), zG D cl A σ H → va_S A s.heap H locs → zL ls nL lv → W p l e R s m args below meth c H locs cells slots Q (F0 m pc ls st)
def zQc (D : va_G) (cl : List vw_C) (A : Nat → Prop) (post : Option Value → zh → Prop) : Array Value → State → Outcome → State → Prop := fun _ st oc t => (∃ (r : Option Value) (σ' : zh), oc = .returned r ∧ post r σ' ∧ zG D cl A σ' t.heap) ∧ va_F A st t
def zQ (K : zC) (D : va_G) (cl : List vw_C) (A : Nat → Prop) (post : Option Value → zh → Prop) (mc ms : Nat) : State → Prop := match K with
  | (_, _, _, _, s, _, args, below, _, _) => MQ below (zQc D cl A post) args s mc ms A
def zPc (D : va_G) (cl : List vw_C) (A : Nat → Prop) (tys : List (ClassId × FieldType)) (F : State → Prop) (vals : List Value) (σ : zh) : Array Value → State → Prop := va_Pc vals (fun U => (∀ q, U.heap.size ≤ q → A q) ∧ va_K D cl tys U ∧ F U ∧ zG D cl A σ U.heap)
/-- a method's contract: from the map σ it answers r and leaves the map σ', with post r σ' -/
def zM (l : Launch) (D : va_G) (cl : List vw_C) (A : Nat → Prop) (tys : List (ClassId × FieldType)) (F : State → Prop) (y : MethodName) (ws : List Cond) (rm : Room) (vals : List Value) (σ : zh) (post : Option Value → zh → Prop) : Prop :=
  Met l y ws rm (zPc D cl A tys F vals σ) (zQc D cl A post) rm.cells rm.slots A
def zents (vals : List Value) : List (Option Value) := vals.flatMap fun v => if v.category = 2 then [some v, none] else [some v]
theorem zents_at : ∀ (vals : List Value) (i : Nat) (v : Value), (zents vals)[i]? = some (some v) → (lg_sl vals)[i]? = some (.val v)
  | [], i, v, h => by simp [zents] at h
  | w :: l, i, v, h => by
    have ih := zents_at l
    unfold zents lg_sl at *
    rw [List.flatMap_cons] at h ⊢
    by_cases hc : w.category = 2
    · simp only [hc, if_true] at h ⊢
      match i, h with
      | 0, h => simpa using h
      | 1, h => simp at h
      | j + 2, h => simpa using ih j v (by simpa using h)
    · simp only [hc, if_false] at h ⊢
      match i, h with
      | 0, h => simpa using h
      | j + 1, h => simpa using ih j v (by simpa using h)
theorem zents_len : ∀ vals : List Value, (zents vals).length = (lg_sl vals).length
  | [] => rfl
  | w :: l => by
    have ih := zents_len l
    unfold zents lg_sl at *
    rw [List.flatMap_cons, List.flatMap_cons, List.length_append, List.length_append, ih]
    by_cases hc : w.category = 2 <;> simp [hc]
def zent (vals : List Value) (nL : Nat) : List (Option Value) := zents vals ++ List.replicate (nL - (zents vals).length) none
theorem zent_ok (vals : List Value) {n : Nat} (h : (zents vals).length ≤ n) : zL ((lg_sl vals ++ List.replicate (n - (lg_sl vals).length) Slot.unset).toArray) n (zent vals n) := by
  have h1 := lv_entry vals (n := n) (by rw [← zents_len]; exact h)
  refine ⟨h1.1, h1.2.1, by simp [zent]; omega, fun i v hi => ?_⟩
  unfold zent at hi
  by_cases hl : i < (zents vals).length
  · rw [List.getElem?_append_left hl] at hi
    have h2 := zents_at vals i v hi
    simp only [List.getElem?_toArray]
    rw [List.getElem?_append_left (by rw [← zents_len]; exact hl)]
    exact h2
  · rw [List.getElem?_append_right (by omega)] at hi
    rw [List.getElem?_replicate] at hi
    split at hi <;> simp at hi

section ZR
variable {K : zC} {D : va_G} {cl : List vw_C} {A : Nat → Prop} {tys : List (ClassId × FieldType)} {F : State → Prop} {rm : Room} {cc : ByteArray} {own nm : String} {Ts : List Cond} {nL : Nat} {ret : Option FieldType} {Q : State → Prop} {cells slots pc : Nat} {σ : zh} {lv : List (Option Value)} {st : List Value}
theorem zMet {l : Launch} {y : MethodName} {ws ws' : List Cond} {vals : List Value} {post : Option Value → zh → Prop} (hF : zFok F A) (hy : plainName y.cls = true) (hw : ws = Cond.code y cc nL ret :: ws') (hn : (zents vals).length ≤ nL)
    (body : ∀ K : zC, K.2.1 = l → zCx K D cl A tys F rm cc y.cls y.name ws nL ret → zJ K D cl A nL (zQ K D cl A post rm.cells rm.slots) 0 0 σ 0 (zent vals nL) []) : zM l D cl A tys F y ws rm vals σ post := by
  refine Met.ofW (cc := cc) (maxL := nL) (ret := ret) hy hw ?_
  intro p e s m args below meth c s₁ B hml hv
  obtain ⟨rfl, hA, hK, hFs, hG⟩ := hv
  have hown : s.vm.findClass y.cls = some m.cls := findClass_of_methodNamed B.named
  have k := body (p, l, e, (headSpec ws rm).room, s, m, vals.toArray, below, meth, c) rfl ⟨B.exec, B.bytes, hml, hown, atoms_spec (ws := ws) B.pre, B.returns, B.notSynchronized, hK, hA, hFs, rfl, hF, (name_of_methodNamed B.named B.method).1⟩
  rw [lg_entry_eq]
  exact k s.heap [] _ hG va_S.rf (zent_ok vals hn)
theorem z_widen {k n : Nat} (h1 : cells ≤ k) (h2 : slots ≤ n) (kk : zJ K D cl A nL Q (k) (n) (σ) (pc) (lv) (st)) : zJ K D cl A nL Q (cells) (slots) (σ) (pc) (lv) (st) := by
  obtain ⟨p, l, e, R, s, m, args, below, meth, c⟩ := K
  intro H locs ls hG hS hL
  exact W.widen h1 h2 (kk H locs ls hG hS hL)
theorem z_eq {lv' : List (Option Value)} {st' : List Value} {σ' : zh} (h1 : lv = lv') (h2 : st = st') (h3 : σ = σ') (kk : zJ K D cl A nL Q (cells) (slots) (σ') (pc) (lv') (st')) : zJ K D cl A nL Q (cells) (slots) (σ) (pc) (lv) (st) := by
  subst h1; subst h2; subst h3; exact kk
theorem z_iret {post : Option Value → zh → Prop} {mc ms : Nat} {a : Int} (C : zCx K D cl A tys F rm cc own nm Ts nL (some .int)) (hd : decode cc pc = .ok (.ireturn, 1)) (h1 : cells ≤ mc) (h2 : slots ≤ ms) (hp : post (some (iv a)) σ) : zJ K D cl A nL (zQ K D cl A post mc ms) (cells) (slots) (σ) (pc) (lv) ([iv a]) := by
  obtain ⟨p, l, e, R, s, m, args, below, meth, c⟩ := K
  intro H locs ls hG hS hL
  refine W.widen h1 h2 ?_
  have hlocks : meth.locks = false := C.2.2.2.2.2.2.1
  exact W.iret (v := Int32.ofInt a) C.1 C.2.1 C.2.2.2.2.2.1 (fun t ht hW => ⟨⟨_, σ, rfl, hp, by rw [ht]; exact hG⟩, hS.F ht⟩) hS.2.2 hd
theorem z_zret {post : Option Value → zh → Prop} {mc ms : Nat} {a : Int} (C : zCx K D cl A tys F rm cc own nm Ts nL (some .boolean)) (hd : decode cc pc = .ok (.ireturn, 1)) (h1 : cells ≤ mc) (h2 : slots ≤ ms) (ha : a = 0 ∨ a = 1) (hp : post (some (iv a)) σ) : zJ K D cl A nL (zQ K D cl A post mc ms) (cells) (slots) (σ) (pc) (lv) ([iv a]) := by
  obtain ⟨p, l, e, R, s, m, args, below, meth, c⟩ := K
  intro H locs ls hG hS hL
  refine W.widen h1 h2 ?_
  have hlocks : meth.locks = false := C.2.2.2.2.2.2.1
  exact W.zret (v := Int32.ofInt a) C.1 C.2.1 C.2.2.2.2.2.1 (znarz ha) (fun t ht hW => ⟨⟨_, σ, rfl, hp, by rw [ht]; exact hG⟩, hS.F ht⟩) hS.2.2 hd
theorem z_lret {post : Option Value → zh → Prop} {mc ms : Nat} {a : Int} (C : zCx K D cl A tys F rm cc own nm Ts nL (some .long)) (hd : decode cc pc = .ok (.lreturn, 1)) (h1 : cells ≤ mc) (h2 : slots ≤ ms) (hp : post (some (jv a)) σ) : zJ K D cl A nL (zQ K D cl A post mc ms) (cells) (slots) (σ) (pc) (lv) ([jv a]) := by
  obtain ⟨p, l, e, R, s, m, args, below, meth, c⟩ := K
  intro H locs ls hG hS hL
  refine W.widen h1 h2 ?_
  have hlocks : meth.locks = false := C.2.2.2.2.2.2.1
  exact W.lret (v := Int64.ofInt a) C.1 C.2.1 C.2.2.2.2.2.1 (fun t ht hW => ⟨⟨_, σ, rfl, hp, by rw [ht]; exact hG⟩, hS.F ht⟩) hS.2.2 hd
theorem z_vret {post : Option Value → zh → Prop} {mc ms : Nat} (C : zCx K D cl A tys F rm cc own nm Ts nL none) (hd : decode cc pc = .ok (.return_, 1)) (h1 : cells ≤ mc) (h2 : slots ≤ ms) (hp : post none σ) : zJ K D cl A nL (zQ K D cl A post mc ms) (cells) (slots) (σ) (pc) (lv) ([]) := by
  obtain ⟨p, l, e, R, s, m, args, below, meth, c⟩ := K
  intro H locs ls hG hS hL
  refine W.widen h1 h2 ?_
  have hlocks : meth.locks = false := C.2.2.2.2.2.2.1
  exact W.vret C.1 C.2.1 C.2.2.2.2.2.1 (fun t ht hW => ⟨⟨_, σ, rfl, hp, by rw [ht]; exact hG⟩, hS.F ht⟩) hS.2.2 hd
theorem z_aret {post : Option Value → zh → Prop} {mc ms : Nat} {r : Option Nat} {cn : String} (C : zCx K D cl A tys F rm cc own nm Ts nL (some (.object cn))) (hd : decode cc pc = .ok (.areturn, 1)) (h1 : cells ≤ mc) (h2 : slots ≤ ms) (hp : post (some (va_rf r)) σ) : zJ K D cl A nL (zQ K D cl A post mc ms) (cells) (slots) (σ) (pc) (lv) ([va_rf r]) := by
  obtain ⟨p, l, e, R, s, m, args, below, meth, c⟩ := K
  intro H locs ls hG hS hL
  refine W.widen h1 h2 ?_
  have hlocks : meth.locks = false := C.2.2.2.2.2.2.1
  exact W.aret (v := va_rf r) C.1 C.2.1 C.2.2.2.2.2.1 (Or.inl ⟨_, rfl⟩) (va_rf_or r) (fun t ht hW => ⟨⟨_, σ, rfl, hp, by rw [ht]; exact hG⟩, hS.F ht⟩) hS.2.2 hd
theorem z_iconst (C : zCx K D cl A tys F rm cc own nm Ts nL ret) {a : Int} (hd : decode cc pc = .ok (.iconst a, 1)) (k : zJ K D cl A nL Q (cells) (slots) (σ) (pc + 1) (lv) (iv a :: st)) : zJ K D cl A nL Q (cells) (slots) (σ) (pc) (lv) (st) := by
  obtain ⟨p, l, e, R, s, m, args, below, meth, c⟩ := K
  intro H locs ls hG hS hL
  exact lv_iconst C.1 C.2.1 hd rfl (k H locs ls hG hS hL)
theorem z_bipush (C : zCx K D cl A tys F rm cc own nm Ts nL ret) {a : Int} (hd : decode cc pc = .ok (.bipush a, 2)) (hv : (Int8.ofInt a).toInt32 = Int32.ofInt a) (k : zJ K D cl A nL Q (cells) (slots) (σ) (pc + 2) (lv) (iv a :: st)) : zJ K D cl A nL Q (cells) (slots) (σ) (pc) (lv) (st) := by
  obtain ⟨p, l, e, R, s, m, args, below, meth, c⟩ := K
  intro H locs ls hG hS hL
  exact lv_bipush C.1 C.2.1 hd hv (k H locs ls hG hS hL)
theorem z_sipush (C : zCx K D cl A tys F rm cc own nm Ts nL ret) {a : Int} (hd : decode cc pc = .ok (.sipush a, 3)) (hv : (Int16.ofInt a).toInt32 = Int32.ofInt a) (k : zJ K D cl A nL Q (cells) (slots) (σ) (pc + 3) (lv) (iv a :: st)) : zJ K D cl A nL Q (cells) (slots) (σ) (pc) (lv) (st) := by
  obtain ⟨p, l, e, R, s, m, args, below, meth, c⟩ := K
  intro H locs ls hG hS hL
  exact lv_sipush C.1 C.2.1 hd hv (k H locs ls hG hS hL)
theorem z_lconst (C : zCx K D cl A tys F rm cc own nm Ts nL ret) {n : Fin 2} (a : Int) (hd : decode cc pc = .ok (.lconst n, 1)) (hv : Int64.ofNat (n : Nat) = Int64.ofInt a) (k : zJ K D cl A nL Q (cells) (slots) (σ) (pc + 1) (lv) (jv a :: st)) : zJ K D cl A nL Q (cells) (slots) (σ) (pc) (lv) (st) := by
  obtain ⟨p, l, e, R, s, m, args, below, meth, c⟩ := K
  intro H locs ls hG hS hL
  exact lv_lconst C.1 C.2.1 hd hv (k H locs ls hG hS hL)
theorem z_ldc2 (C : zCx K D cl A tys F rm cc own nm Ts nL ret) {index : Nat} (a : Int) (hw : Cond.constantLong own index (Int64.ofInt a) ∈ Ts) (hd : decode cc pc = .ok (.ldc2_w index, 3)) (k : zJ K D cl A nL Q (cells) (slots) (σ) (pc + 3) (lv) (jv a :: st)) : zJ K D cl A nL Q (cells) (slots) (σ) (pc) (lv) (st) := by
  obtain ⟨p, l, e, R, s, m, args, below, meth, c⟩ := K
  intro H locs ls hG hS hL
  exact lv_ldc2 C.1 C.2.1 C.2.2.2.1 (C.2.2.2.2.1 _ hw) hd (k H locs ls hG hS hL)
theorem z_ldc (C : zCx K D cl A tys F rm cc own nm Ts nL ret) {index : Nat} (a : Int) (hw : Cond.constant own index (Int32.ofInt a) ∈ Ts) (hd : decode cc pc = .ok (.ldc index, 2)) (k : zJ K D cl A nL Q (cells) (slots) (σ) (pc + 2) (lv) (iv a :: st)) : zJ K D cl A nL Q (cells) (slots) (σ) (pc) (lv) (st) := by
  obtain ⟨p, l, e, R, s, m, args, below, meth, c⟩ := K
  intro H locs ls hG hS hL
  exact lv_ldc C.1 C.2.1 C.2.2.2.1 (C.2.2.2.2.1 _ hw) hd (k H locs ls hG hS hL)
theorem z_null (C : zCx K D cl A tys F rm cc own nm Ts nL ret) (hd : decode cc pc = .ok (.aconst_null, 1)) (k : zJ K D cl A nL Q (cells) (slots) (σ) (pc + 1) (lv) (.null :: st)) : zJ K D cl A nL Q (cells) (slots) (σ) (pc) (lv) (st) := by
  obtain ⟨p, l, e, R, s, m, args, below, meth, c⟩ := K
  intro H locs ls hG hS hL
  exact lv_null C.1 C.2.1 hd (k H locs ls hG hS hL)
theorem z_iload_n (C : zCx K D cl A tys F rm cc own nm Ts nL ret) {k : Fin 4} {a : Int} (hd : decode cc pc = .ok (.iload_n k, 1)) (hl : lv[(k : Nat)]? = some (some (iv a))) (kk : zJ K D cl A nL Q (cells) (slots) (σ) (pc + 1) (lv) (iv a :: st)) : zJ K D cl A nL Q (cells) (slots) (σ) (pc) (lv) (st) := by
  obtain ⟨p, l, e, R, s, m, args, below, meth, c⟩ := K
  intro H locs ls hG hS hL
  exact lv_iload_n C.1 C.2.1 hd rfl (hL.2.2.2 _ _ hl) (kk H locs ls hG hS hL)
theorem z_iload (C : zCx K D cl A tys F rm cc own nm Ts nL ret) {i : Nat} {a : Int} (hd : decode cc pc = .ok (.iload i, 2)) (hl : lv[i]? = some (some (iv a))) (kk : zJ K D cl A nL Q (cells) (slots) (σ) (pc + 2) (lv) (iv a :: st)) : zJ K D cl A nL Q (cells) (slots) (σ) (pc) (lv) (st) := by
  obtain ⟨p, l, e, R, s, m, args, below, meth, c⟩ := K
  intro H locs ls hG hS hL
  exact lv_iload C.1 C.2.1 hd (hL.2.2.2 _ _ hl) (kk H locs ls hG hS hL)
theorem z_lload_n (C : zCx K D cl A tys F rm cc own nm Ts nL ret) {k : Fin 4} {a : Int} (hd : decode cc pc = .ok (.lload_n k, 1)) (hl : lv[(k : Nat)]? = some (some (jv a))) (kk : zJ K D cl A nL Q (cells) (slots) (σ) (pc + 1) (lv) (jv a :: st)) : zJ K D cl A nL Q (cells) (slots) (σ) (pc) (lv) (st) := by
  obtain ⟨p, l, e, R, s, m, args, below, meth, c⟩ := K
  intro H locs ls hG hS hL
  exact lv_lload_n C.1 C.2.1 hd rfl (hL.2.2.2 _ _ hl) (kk H locs ls hG hS hL)
theorem z_lload (C : zCx K D cl A tys F rm cc own nm Ts nL ret) {i : Nat} {a : Int} (hd : decode cc pc = .ok (.lload i, 2)) (hl : lv[i]? = some (some (jv a))) (kk : zJ K D cl A nL Q (cells) (slots) (σ) (pc + 2) (lv) (jv a :: st)) : zJ K D cl A nL Q (cells) (slots) (σ) (pc) (lv) (st) := by
  obtain ⟨p, l, e, R, s, m, args, below, meth, c⟩ := K
  intro H locs ls hG hS hL
  exact lv_lload C.1 C.2.1 hd (hL.2.2.2 _ _ hl) (kk H locs ls hG hS hL)
theorem z_aload_n (C : zCx K D cl A tys F rm cc own nm Ts nL ret) {k : Fin 4} {x : Nat} (hd : decode cc pc = .ok (.aload_n k, 1)) (hl : lv[(k : Nat)]? = some (some (.ref x))) (kk : zJ K D cl A nL Q (cells) (slots) (σ) (pc + 1) (lv) (.ref x :: st)) : zJ K D cl A nL Q (cells) (slots) (σ) (pc) (lv) (st) := by
  obtain ⟨p, l, e, R, s, m, args, below, meth, c⟩ := K
  intro H locs ls hG hS hL
  exact lv_aload_n C.1 C.2.1 hd rfl (hL.2.2.2 _ _ hl) (kk H locs ls hG hS hL)
theorem z_aload (C : zCx K D cl A tys F rm cc own nm Ts nL ret) {i : Nat} {x : Nat} (hd : decode cc pc = .ok (.aload i, 2)) (hl : lv[i]? = some (some (.ref x))) (kk : zJ K D cl A nL Q (cells) (slots) (σ) (pc + 2) (lv) (.ref x :: st)) : zJ K D cl A nL Q (cells) (slots) (σ) (pc) (lv) (st) := by
  obtain ⟨p, l, e, R, s, m, args, below, meth, c⟩ := K
  intro H locs ls hG hS hL
  exact lv_aload C.1 C.2.1 hd (hL.2.2.2 _ _ hl) (kk H locs ls hG hS hL)
theorem z_aload_nN (C : zCx K D cl A tys F rm cc own nm Ts nL ret) {k : Fin 4} (hd : decode cc pc = .ok (.aload_n k, 1)) (hl : lv[(k : Nat)]? = some (some .null)) (kk : zJ K D cl A nL Q (cells) (slots) (σ) (pc + 1) (lv) (.null :: st)) : zJ K D cl A nL Q (cells) (slots) (σ) (pc) (lv) (st) := by
  obtain ⟨p, l, e, R, s, m, args, below, meth, c⟩ := K
  intro H locs ls hG hS hL
  exact lv_aload_nN C.1 C.2.1 hd rfl (hL.2.2.2 _ _ hl) (kk H locs ls hG hS hL)
theorem z_aloadN (C : zCx K D cl A tys F rm cc own nm Ts nL ret) {i : Nat} (hd : decode cc pc = .ok (.aload i, 2)) (hl : lv[i]? = some (some .null)) (kk : zJ K D cl A nL Q (cells) (slots) (σ) (pc + 2) (lv) (.null :: st)) : zJ K D cl A nL Q (cells) (slots) (σ) (pc) (lv) (st) := by
  obtain ⟨p, l, e, R, s, m, args, below, meth, c⟩ := K
  intro H locs ls hG hS hL
  exact lv_aloadN C.1 C.2.1 hd (hL.2.2.2 _ _ hl) (kk H locs ls hG hS hL)
theorem z_istore_n (C : zCx K D cl A tys F rm cc own nm Ts nL ret) {k : Fin 4} {a : Int} (hd : decode cc pc = .ok (.istore_n k, 1)) (hn : (k : Nat) < nL) (kk : zJ K D cl A nL Q (cells) (slots) (σ) (pc + 1) (zst1 lv k (iv a)) (st)) : zJ K D cl A nL Q (cells) (slots) (σ) (pc) (lv) (iv a :: st) := by
  obtain ⟨p, l, e, R, s, m, args, below, meth, c⟩ := K
  intro H locs ls hG hS hL
  exact lv_istore_n C.1 C.2.1 hd rfl hL.has hn rfl (fun ls hl => kk H locs ls hG hS (zst1_ok hL.2.2.1 hl))
theorem z_istore (C : zCx K D cl A tys F rm cc own nm Ts nL ret) {i : Nat} {a : Int} (hd : decode cc pc = .ok (.istore i, 2)) (hn : i < nL) (kk : zJ K D cl A nL Q (cells) (slots) (σ) (pc + 2) (zst1 lv i (iv a)) (st)) : zJ K D cl A nL Q (cells) (slots) (σ) (pc) (lv) (iv a :: st) := by
  obtain ⟨p, l, e, R, s, m, args, below, meth, c⟩ := K
  intro H locs ls hG hS hL
  exact lv_istore C.1 C.2.1 hd hL.has hn rfl (fun ls hl => kk H locs ls hG hS (zst1_ok hL.2.2.1 hl))
theorem z_lstore_n (C : zCx K D cl A tys F rm cc own nm Ts nL ret) {k : Fin 4} {a : Int} (hd : decode cc pc = .ok (.lstore_n k, 1)) (hn : (k : Nat) + 1 < nL) (kk : zJ K D cl A nL Q (cells) (slots) (σ) (pc + 1) (zst2 lv k (jv a)) (st)) : zJ K D cl A nL Q (cells) (slots) (σ) (pc) (lv) (jv a :: st) := by
  obtain ⟨p, l, e, R, s, m, args, below, meth, c⟩ := K
  intro H locs ls hG hS hL
  exact lv_lstore_n C.1 C.2.1 hd rfl hL.has hn rfl (fun ls hl => kk H locs ls hG hS (zst2_ok hL.2.2.1 hl))
theorem z_lstore (C : zCx K D cl A tys F rm cc own nm Ts nL ret) {i : Nat} {a : Int} (hd : decode cc pc = .ok (.lstore i, 2)) (hn : i + 1 < nL) (kk : zJ K D cl A nL Q (cells) (slots) (σ) (pc + 2) (zst2 lv i (jv a)) (st)) : zJ K D cl A nL Q (cells) (slots) (σ) (pc) (lv) (jv a :: st) := by
  obtain ⟨p, l, e, R, s, m, args, below, meth, c⟩ := K
  intro H locs ls hG hS hL
  exact lv_lstore C.1 C.2.1 hd hL.has hn rfl (fun ls hl => kk H locs ls hG hS (zst2_ok hL.2.2.1 hl))
theorem z_astore_n (C : zCx K D cl A tys F rm cc own nm Ts nL ret) {k : Fin 4} {x : Nat} (hd : decode cc pc = .ok (.astore_n k, 1)) (hn : (k : Nat) < nL) (kk : zJ K D cl A nL Q (cells) (slots) (σ) (pc + 1) (zst1 lv k (.ref x)) (st)) : zJ K D cl A nL Q (cells) (slots) (σ) (pc) (lv) (.ref x :: st) := by
  obtain ⟨p, l, e, R, s, m, args, below, meth, c⟩ := K
  intro H locs ls hG hS hL
  exact lv_astore_n C.1 C.2.1 hd rfl hL.has hn rfl (fun ls hl => kk H locs ls hG hS (zst1_ok hL.2.2.1 hl))
theorem z_astore (C : zCx K D cl A tys F rm cc own nm Ts nL ret) {i : Nat} {x : Nat} (hd : decode cc pc = .ok (.astore i, 2)) (hn : i < nL) (kk : zJ K D cl A nL Q (cells) (slots) (σ) (pc + 2) (zst1 lv i (.ref x)) (st)) : zJ K D cl A nL Q (cells) (slots) (σ) (pc) (lv) (.ref x :: st) := by
  obtain ⟨p, l, e, R, s, m, args, below, meth, c⟩ := K
  intro H locs ls hG hS hL
  exact lv_astore C.1 C.2.1 hd hL.has hn rfl (fun ls hl => kk H locs ls hG hS (zst1_ok hL.2.2.1 hl))
theorem z_astore_nN (C : zCx K D cl A tys F rm cc own nm Ts nL ret) {k : Fin 4} (hd : decode cc pc = .ok (.astore_n k, 1)) (hn : (k : Nat) < nL) (kk : zJ K D cl A nL Q (cells) (slots) (σ) (pc + 1) (zst1 lv k .null) (st)) : zJ K D cl A nL Q (cells) (slots) (σ) (pc) (lv) (.null :: st) := by
  obtain ⟨p, l, e, R, s, m, args, below, meth, c⟩ := K
  intro H locs ls hG hS hL
  exact lv_astore_nN C.1 C.2.1 hd rfl hL.has hn rfl (fun ls hl => kk H locs ls hG hS (zst1_ok hL.2.2.1 hl))
theorem z_astoreN (C : zCx K D cl A tys F rm cc own nm Ts nL ret) {i : Nat} (hd : decode cc pc = .ok (.astore i, 2)) (hn : i < nL) (kk : zJ K D cl A nL Q (cells) (slots) (σ) (pc + 2) (zst1 lv i .null) (st)) : zJ K D cl A nL Q (cells) (slots) (σ) (pc) (lv) (.null :: st) := by
  obtain ⟨p, l, e, R, s, m, args, below, meth, c⟩ := K
  intro H locs ls hG hS hL
  exact lv_astoreN C.1 C.2.1 hd hL.has hn rfl (fun ls hl => kk H locs ls hG hS (zst1_ok hL.2.2.1 hl))
theorem z_iinc (C : zCx K D cl A tys F rm cc own nm Ts nL ret) {i : Nat} {n a : Int} (hd : decode cc pc = .ok (.iinc i n, 3)) (hl : lv[i]? = some (some (iv a))) (hn : i < nL) (kk : zJ K D cl A nL Q (cells) (slots) (σ) (pc + 3) (zst1 lv i (iv (a + n))) (st)) : zJ K D cl A nL Q (cells) (slots) (σ) (pc) (lv) (st) := by
  obtain ⟨p, l, e, R, s, m, args, below, meth, c⟩ := K
  intro H locs ls hG hS hL
  obtain ⟨j, hj⟩ := List.getElem?_of_mem (zas_mem.mpr hl)
  exact lv_iinc (v := Int32.ofInt (a + n)) C.1 C.2.1 hd hL.has hj (Int32.ofInt_add a n).symm hn rfl (fun ls hl => kk H locs ls hG hS (zst1_ok hL.2.2.1 hl))
theorem z_iadd (C : zCx K D cl A tys F rm cc own nm Ts nL ret) {a b : Int} (hd : decode cc pc = .ok (.iadd, 1)) (k : zJ K D cl A nL Q (cells) (slots) (σ) (pc + 1) (lv) (iv (a + b) :: st)) : zJ K D cl A nL Q (cells) (slots) (σ) (pc) (lv) (iv b :: iv a :: st) := by
  obtain ⟨p, l, e, R, s, m, args, below, meth, c⟩ := K
  intro H locs ls hG hS hL
  have k := k H locs ls hG hS hL
  rw [show iv (a + b) = .int (Int32.ofInt a + Int32.ofInt b) from congrArg Value.int (Int32.ofInt_add a b)] at k
  exact lv_iadd C.1 C.2.1 hd k
theorem z_isub (C : zCx K D cl A tys F rm cc own nm Ts nL ret) {a b : Int} (hd : decode cc pc = .ok (.isub, 1)) (k : zJ K D cl A nL Q (cells) (slots) (σ) (pc + 1) (lv) (iv (a - b) :: st)) : zJ K D cl A nL Q (cells) (slots) (σ) (pc) (lv) (iv b :: iv a :: st) := by
  obtain ⟨p, l, e, R, s, m, args, below, meth, c⟩ := K
  intro H locs ls hG hS hL
  have k := k H locs ls hG hS hL
  rw [show iv (a - b) = .int (Int32.ofInt a - Int32.ofInt b) from congrArg Value.int (Int32.ofInt_sub a b)] at k
  exact lv_isub C.1 C.2.1 hd k
theorem z_imul (C : zCx K D cl A tys F rm cc own nm Ts nL ret) {a b : Int} (hd : decode cc pc = .ok (.imul, 1)) (k : zJ K D cl A nL Q (cells) (slots) (σ) (pc + 1) (lv) (iv (a * b) :: st)) : zJ K D cl A nL Q (cells) (slots) (σ) (pc) (lv) (iv b :: iv a :: st) := by
  obtain ⟨p, l, e, R, s, m, args, below, meth, c⟩ := K
  intro H locs ls hG hS hL
  have k := k H locs ls hG hS hL
  rw [show iv (a * b) = .int (Int32.ofInt a * Int32.ofInt b) from congrArg Value.int (Int32.ofInt_mul a b)] at k
  exact lv_imul C.1 C.2.1 hd k
theorem z_ladd (C : zCx K D cl A tys F rm cc own nm Ts nL ret) {a b : Int} (hd : decode cc pc = .ok (.ladd, 1)) (k : zJ K D cl A nL Q (cells) (slots) (σ) (pc + 1) (lv) (jv (a + b) :: st)) : zJ K D cl A nL Q (cells) (slots) (σ) (pc) (lv) (jv b :: jv a :: st) := by
  obtain ⟨p, l, e, R, s, m, args, below, meth, c⟩ := K
  intro H locs ls hG hS hL
  have k := k H locs ls hG hS hL
  rw [show jv (a + b) = .long (Int64.ofInt a + Int64.ofInt b) from congrArg Value.long (Int64.ofInt_add a b)] at k
  exact lv_ladd C.1 C.2.1 hd k
theorem z_lsub (C : zCx K D cl A tys F rm cc own nm Ts nL ret) {a b : Int} (hd : decode cc pc = .ok (.lsub, 1)) (k : zJ K D cl A nL Q (cells) (slots) (σ) (pc + 1) (lv) (jv (a - b) :: st)) : zJ K D cl A nL Q (cells) (slots) (σ) (pc) (lv) (jv b :: jv a :: st) := by
  obtain ⟨p, l, e, R, s, m, args, below, meth, c⟩ := K
  intro H locs ls hG hS hL
  have k := k H locs ls hG hS hL
  rw [show jv (a - b) = .long (Int64.ofInt a - Int64.ofInt b) from congrArg Value.long (Int64.ofInt_sub a b)] at k
  exact lv_lsub C.1 C.2.1 hd k
theorem z_lmul (C : zCx K D cl A tys F rm cc own nm Ts nL ret) {a b : Int} (hd : decode cc pc = .ok (.lmul, 1)) (k : zJ K D cl A nL Q (cells) (slots) (σ) (pc + 1) (lv) (jv (a * b) :: st)) : zJ K D cl A nL Q (cells) (slots) (σ) (pc) (lv) (jv b :: jv a :: st) := by
  obtain ⟨p, l, e, R, s, m, args, below, meth, c⟩ := K
  intro H locs ls hG hS hL
  have k := k H locs ls hG hS hL
  rw [show jv (a * b) = .long (Int64.ofInt a * Int64.ofInt b) from congrArg Value.long (Int64.ofInt_mul a b)] at k
  exact lv_lmul C.1 C.2.1 hd k
theorem z_iand (C : zCx K D cl A tys F rm cc own nm Ts nL ret) {x y : Int32} (hd : decode cc pc = .ok (.iand, 1)) (k : zJ K D cl A nL Q (cells) (slots) (σ) (pc + 1) (lv) (.int (x &&& y) :: st)) : zJ K D cl A nL Q (cells) (slots) (σ) (pc) (lv) (.int y :: .int x :: st) := by
  obtain ⟨p, l, e, R, s, m, args, below, meth, c⟩ := K
  intro H locs ls hG hS hL
  exact lv_iand C.1 C.2.1 hd (k H locs ls hG hS hL)
theorem z_ior (C : zCx K D cl A tys F rm cc own nm Ts nL ret) {x y : Int32} (hd : decode cc pc = .ok (.ior, 1)) (k : zJ K D cl A nL Q (cells) (slots) (σ) (pc + 1) (lv) (.int (x ||| y) :: st)) : zJ K D cl A nL Q (cells) (slots) (σ) (pc) (lv) (.int y :: .int x :: st) := by
  obtain ⟨p, l, e, R, s, m, args, below, meth, c⟩ := K
  intro H locs ls hG hS hL
  exact lv_ior C.1 C.2.1 hd (k H locs ls hG hS hL)
theorem z_ixor (C : zCx K D cl A tys F rm cc own nm Ts nL ret) {x y : Int32} (hd : decode cc pc = .ok (.ixor, 1)) (k : zJ K D cl A nL Q (cells) (slots) (σ) (pc + 1) (lv) (.int (x ^^^ y) :: st)) : zJ K D cl A nL Q (cells) (slots) (σ) (pc) (lv) (.int y :: .int x :: st) := by
  obtain ⟨p, l, e, R, s, m, args, below, meth, c⟩ := K
  intro H locs ls hG hS hL
  exact lv_ixor C.1 C.2.1 hd (k H locs ls hG hS hL)
theorem z_ishl (C : zCx K D cl A tys F rm cc own nm Ts nL ret) {x y : Int32} (hd : decode cc pc = .ok (.ishl, 1)) (k : zJ K D cl A nL Q (cells) (slots) (σ) (pc + 1) (lv) (.int (x <<< (y &&& 31)) :: st)) : zJ K D cl A nL Q (cells) (slots) (σ) (pc) (lv) (.int y :: .int x :: st) := by
  obtain ⟨p, l, e, R, s, m, args, below, meth, c⟩ := K
  intro H locs ls hG hS hL
  exact lv_ishl C.1 C.2.1 hd (k H locs ls hG hS hL)
theorem z_ishr (C : zCx K D cl A tys F rm cc own nm Ts nL ret) {x y : Int32} (hd : decode cc pc = .ok (.ishr, 1)) (k : zJ K D cl A nL Q (cells) (slots) (σ) (pc + 1) (lv) (.int (x >>> (y &&& 31)) :: st)) : zJ K D cl A nL Q (cells) (slots) (σ) (pc) (lv) (.int y :: .int x :: st) := by
  obtain ⟨p, l, e, R, s, m, args, below, meth, c⟩ := K
  intro H locs ls hG hS hL
  exact lv_ishr C.1 C.2.1 hd (k H locs ls hG hS hL)
theorem z_land (C : zCx K D cl A tys F rm cc own nm Ts nL ret) {x y : Int64} (hd : decode cc pc = .ok (.land, 1)) (k : zJ K D cl A nL Q (cells) (slots) (σ) (pc + 1) (lv) (.long (x &&& y) :: st)) : zJ K D cl A nL Q (cells) (slots) (σ) (pc) (lv) (.long y :: .long x :: st) := by
  obtain ⟨p, l, e, R, s, m, args, below, meth, c⟩ := K
  intro H locs ls hG hS hL
  exact lv_land C.1 C.2.1 hd (k H locs ls hG hS hL)
theorem z_lor (C : zCx K D cl A tys F rm cc own nm Ts nL ret) {x y : Int64} (hd : decode cc pc = .ok (.lor, 1)) (k : zJ K D cl A nL Q (cells) (slots) (σ) (pc + 1) (lv) (.long (x ||| y) :: st)) : zJ K D cl A nL Q (cells) (slots) (σ) (pc) (lv) (.long y :: .long x :: st) := by
  obtain ⟨p, l, e, R, s, m, args, below, meth, c⟩ := K
  intro H locs ls hG hS hL
  exact lv_lor C.1 C.2.1 hd (k H locs ls hG hS hL)
theorem z_lxor (C : zCx K D cl A tys F rm cc own nm Ts nL ret) {x y : Int64} (hd : decode cc pc = .ok (.lxor, 1)) (k : zJ K D cl A nL Q (cells) (slots) (σ) (pc + 1) (lv) (.long (x ^^^ y) :: st)) : zJ K D cl A nL Q (cells) (slots) (σ) (pc) (lv) (.long y :: .long x :: st) := by
  obtain ⟨p, l, e, R, s, m, args, below, meth, c⟩ := K
  intro H locs ls hG hS hL
  exact lv_lxor C.1 C.2.1 hd (k H locs ls hG hS hL)
theorem z_lshl (C : zCx K D cl A tys F rm cc own nm Ts nL ret) {x : Int64} {y : Int32} (hd : decode cc pc = .ok (.lshl, 1)) (k : zJ K D cl A nL Q (cells) (slots) (σ) (pc + 1) (lv) (.long (x <<< (y.toInt64 &&& 63)) :: st)) : zJ K D cl A nL Q (cells) (slots) (σ) (pc) (lv) (.int y :: .long x :: st) := by
  obtain ⟨p, l, e, R, s, m, args, below, meth, c⟩ := K
  intro H locs ls hG hS hL
  exact lv_lshl C.1 C.2.1 hd rfl (k H locs ls hG hS hL)
theorem z_lushr (C : zCx K D cl A tys F rm cc own nm Ts nL ret) {x : Int64} {y : Int32} (hd : decode cc pc = .ok (.lushr, 1)) (k : zJ K D cl A nL Q (cells) (slots) (σ) (pc + 1) (lv) (.long ((x.toUInt64 >>> (y.toInt64.toUInt64 &&& Int64.toUInt64 63)).toInt64) :: st)) : zJ K D cl A nL Q (cells) (slots) (σ) (pc) (lv) (.int y :: .long x :: st) := by
  obtain ⟨p, l, e, R, s, m, args, below, meth, c⟩ := K
  intro H locs ls hG hS hL
  exact lv_lushr C.1 C.2.1 hd rfl (k H locs ls hG hS hL)
theorem z_iushr (C : zCx K D cl A tys F rm cc own nm Ts nL ret) {x y : Int32} (hd : decode cc pc = .ok (.iushr, 1)) (k : zJ K D cl A nL Q (cells) (slots) (σ) (pc + 1) (lv) (.int ((x.toUInt32 >>> (y.toUInt32 &&& Int32.toUInt32 31)).toInt32) :: st)) : zJ K D cl A nL Q (cells) (slots) (σ) (pc) (lv) (.int y :: .int x :: st) := by
  obtain ⟨p, l, e, R, s, m, args, below, meth, c⟩ := K
  intro H locs ls hG hS hL
  exact lv_iushr C.1 C.2.1 hd rfl (k H locs ls hG hS hL)
theorem z_top {v w : Value} (h : v = w) (k : zJ K D cl A nL Q (cells) (slots) (σ) (pc) (lv) (w :: st)) : zJ K D cl A nL Q (cells) (slots) (σ) (pc) (lv) (v :: st) := by
  subst h; exact k
theorem z_top2 {v0 v w : Value} (h : v = w) (k : zJ K D cl A nL Q (cells) (slots) (σ) (pc) (lv) (v0 :: w :: st)) : zJ K D cl A nL Q (cells) (slots) (σ) (pc) (lv) (v0 :: v :: st) := by
  subst h; exact k
theorem z_i2l (C : zCx K D cl A tys F rm cc own nm Ts nL ret) {a : Int} (ra : -2147483648 ≤ a ∧ a ≤ 2147483647) (hd : decode cc pc = .ok (.i2l, 1)) (k : zJ K D cl A nL Q (cells) (slots) (σ) (pc + 1) (lv) (jv a :: st)) : zJ K D cl A nL Q (cells) (slots) (σ) (pc) (lv) (iv a :: st) := by
  obtain ⟨p, l, e, R, s, m, args, below, meth, c⟩ := K
  intro H locs ls hG hS hL
  refine lv_i2l (v := Int64.ofInt a) C.1 C.2.1 hd (Int64.toInt_inj.mp ?_) (k H locs ls hG hS hL)
  rw [Int32.toInt_toInt64, z32 ra, z64 (by omega)]
theorem z_l2i (C : zCx K D cl A tys F rm cc own nm Ts nL ret) {a : Int} (hd : decode cc pc = .ok (.l2i, 1)) (k : zJ K D cl A nL Q (cells) (slots) (σ) (pc + 1) (lv) (iv a :: st)) : zJ K D cl A nL Q (cells) (slots) (σ) (pc) (lv) (jv a :: st) := by
  obtain ⟨p, l, e, R, s, m, args, below, meth, c⟩ := K
  intro H locs ls hG hS hL
  exact lv_l2i C.1 C.2.1 hd Int64.toInt32_ofInt (k H locs ls hG hS hL)
theorem z_idiv (C : zCx K D cl A tys F rm cc own nm Ts nL ret) {a b : Int} (ra : 0 ≤ a ∧ a ≤ 2147483647) (rb : 0 < b ∧ b ≤ 2147483647) (hd : decode cc pc = .ok (.idiv, 1)) (k : zJ K D cl A nL Q (cells) (slots) (σ) (pc + 1) (lv) (iv (a / b) :: st)) : zJ K D cl A nL Q (cells) (slots) (σ) (pc) (lv) (iv b :: iv a :: st) := by
  obtain ⟨p, l, e, R, s, m, args, below, meth, c⟩ := K
  intro H locs ls hG hS hL
  have k := k H locs ls hG hS hL
  obtain ⟨x, rfl⟩ := Int.eq_ofNat_of_zero_le ra.1
  obtain ⟨y, rfl⟩ := Int.eq_ofNat_of_zero_le (Int.le_of_lt rb.1)
  have e1 : ∀ n : Nat, Int32.ofInt (n : Int) = nI n := fun n => rfl
  refine lv_idiv C.1 C.2.1 hd (fun q => ?_) ?_
  · rw [e1] at q; exact nI_ne0 (by omega) (by omega) q
  · rw [e1, e1, pk_div (by omega) (by omega) (by omega), ← e1]
    rw [show ((x / y : Nat) : Int) = (x : Int) / (y : Int) from by simp]
    exact k
theorem z_irem (C : zCx K D cl A tys F rm cc own nm Ts nL ret) {a b : Int} (ra : 0 ≤ a ∧ a ≤ 2147483647) (rb : 0 < b ∧ b ≤ 2147483647) (hd : decode cc pc = .ok (.irem, 1)) (k : zJ K D cl A nL Q (cells) (slots) (σ) (pc + 1) (lv) (iv (a % b) :: st)) : zJ K D cl A nL Q (cells) (slots) (σ) (pc) (lv) (iv b :: iv a :: st) := by
  obtain ⟨p, l, e, R, s, m, args, below, meth, c⟩ := K
  intro H locs ls hG hS hL
  have k := k H locs ls hG hS hL
  obtain ⟨x, rfl⟩ := Int.eq_ofNat_of_zero_le ra.1
  obtain ⟨y, rfl⟩ := Int.eq_ofNat_of_zero_le (Int.le_of_lt rb.1)
  have e1 : ∀ n : Nat, Int32.ofInt (n : Int) = nI n := fun n => rfl
  refine lv_irem C.1 C.2.1 hd (fun q => ?_) ?_
  · rw [e1] at q; exact nI_ne0 (by omega) (by omega) q
  · rw [e1, e1, pk_rem (by omega) (by omega) (by omega), ← e1]
    rw [show ((x % y : Nat) : Int) = (x : Int) % (y : Int) from by simp]
    exact k
theorem z_dup (C : zCx K D cl A tys F rm cc own nm Ts nL ret) {v : Value} (hv : v.category = 1) (hd : decode cc pc = .ok (.dup, 1)) (k : zJ K D cl A nL Q (cells) (slots) (σ) (pc + 1) (lv) (v :: v :: st)) : zJ K D cl A nL Q (cells) (slots) (σ) (pc) (lv) (v :: st) := by
  obtain ⟨p, l, e, R, s, m, args, below, meth, c⟩ := K
  intro H locs ls hG hS hL
  exact lv_dup C.1 C.2.1 hd hv (k H locs ls hG hS hL)
theorem z_pop (C : zCx K D cl A tys F rm cc own nm Ts nL ret) {v : Value} (hv : v.category = 1) (hd : decode cc pc = .ok (.pop, 1)) (k : zJ K D cl A nL Q (cells) (slots) (σ) (pc + 1) (lv) (st)) : zJ K D cl A nL Q (cells) (slots) (σ) (pc) (lv) (v :: st) := by
  obtain ⟨p, l, e, R, s, m, args, below, meth, c⟩ := K
  intro H locs ls hG hS hL
  exact lv_pop C.1 C.2.1 hd hv (k H locs ls hG hS hL)
theorem z_dup_x1 (C : zCx K D cl A tys F rm cc own nm Ts nL ret) {v w : Value} (hv : v.category = 1) (hw : w.category = 1) (hd : decode cc pc = .ok (.dup_x1, 1)) (k : zJ K D cl A nL Q (cells) (slots) (σ) (pc + 1) (lv) (v :: w :: v :: st)) : zJ K D cl A nL Q (cells) (slots) (σ) (pc) (lv) (v :: w :: st) := by
  obtain ⟨p, l, e, R, s, m, args, below, meth, c⟩ := K
  intro H locs ls hG hS hL
  exact lv_dup_x1 C.1 C.2.1 hd hv hw (k H locs ls hG hS hL)
theorem z_dup2 (C : zCx K D cl A tys F rm cc own nm Ts nL ret) {v w : Value} (hv : v.category = 1) (hw : w.category = 1) (hd : decode cc pc = .ok (.dup2, 1)) (k : zJ K D cl A nL Q (cells) (slots) (σ) (pc + 1) (lv) (v :: w :: v :: w :: st)) : zJ K D cl A nL Q (cells) (slots) (σ) (pc) (lv) (v :: w :: st) := by
  obtain ⟨p, l, e, R, s, m, args, below, meth, c⟩ := K
  intro H locs ls hG hS hL
  exact lv_dup2_11 C.1 C.2.1 hd hv hw (k H locs ls hG hS hL)
theorem z_pop2 (C : zCx K D cl A tys F rm cc own nm Ts nL ret) {v : Value} (hv : v.category = 2) (hd : decode cc pc = .ok (.pop2, 1)) (k : zJ K D cl A nL Q (cells) (slots) (σ) (pc + 1) (lv) (st)) : zJ K D cl A nL Q (cells) (slots) (σ) (pc) (lv) (v :: st) := by
  obtain ⟨p, l, e, R, s, m, args, below, meth, c⟩ := K
  intro H locs ls hG hS hL
  exact lv_pop2_2 C.1 C.2.1 hd hv (k H locs ls hG hS hL)
theorem z_icmp_eq (C : zCx K D cl A tys F rm cc own nm Ts nL ret) {a b : Int} {off : Int} (tgt : Nat) (ra : -2147483648 ≤ a ∧ a ≤ 2147483647) (rb : -2147483648 ≤ b ∧ b ≤ 2147483647) (hd : decode cc pc = .ok (.if_icmp .eq off, 3)) (ht : (pc : Int) + off = (tgt : Int)) (kt : a = b → zJ K D cl A nL Q (cells) (slots) (σ) (tgt) (lv) (st)) (kf : a ≠ b → zJ K D cl A nL Q (cells) (slots) (σ) (pc + 3) (lv) (st)) : zJ K D cl A nL Q (cells) (slots) (σ) (pc) (lv) (iv b :: iv a :: st) := by
  obtain ⟨p, l, e, R, s, m, args, below, meth, c⟩ := K
  intro H locs ls hG hS hL
  exact lv_icmp_eq C.1 C.2.1 hd ht (fun q => kt ((z32_eq ra rb).mp q) H locs ls hG hS hL) (fun q => kf (by have q2 : ¬ (a = b) := fun z => q ((z32_eq ra rb).mpr z); omega) H locs ls hG hS hL)
theorem z_icmp_lt (C : zCx K D cl A tys F rm cc own nm Ts nL ret) {a b : Int} {off : Int} (tgt : Nat) (ra : -2147483648 ≤ a ∧ a ≤ 2147483647) (rb : -2147483648 ≤ b ∧ b ≤ 2147483647) (hd : decode cc pc = .ok (.if_icmp .lt off, 3)) (ht : (pc : Int) + off = (tgt : Int)) (kt : a < b → zJ K D cl A nL Q (cells) (slots) (σ) (tgt) (lv) (st)) (kf : b ≤ a → zJ K D cl A nL Q (cells) (slots) (σ) (pc + 3) (lv) (st)) : zJ K D cl A nL Q (cells) (slots) (σ) (pc) (lv) (iv b :: iv a :: st) := by
  obtain ⟨p, l, e, R, s, m, args, below, meth, c⟩ := K
  intro H locs ls hG hS hL
  exact lv_icmp_lt C.1 C.2.1 hd ht (fun q => kt ((z32_lt ra rb).mp q) H locs ls hG hS hL) (fun q => kf (by have q2 : ¬ (a < b) := fun z => q ((z32_lt ra rb).mpr z); omega) H locs ls hG hS hL)
theorem z_icmp_ge (C : zCx K D cl A tys F rm cc own nm Ts nL ret) {a b : Int} {off : Int} (tgt : Nat) (ra : -2147483648 ≤ a ∧ a ≤ 2147483647) (rb : -2147483648 ≤ b ∧ b ≤ 2147483647) (hd : decode cc pc = .ok (.if_icmp .ge off, 3)) (ht : (pc : Int) + off = (tgt : Int)) (kt : b ≤ a → zJ K D cl A nL Q (cells) (slots) (σ) (tgt) (lv) (st)) (kf : a < b → zJ K D cl A nL Q (cells) (slots) (σ) (pc + 3) (lv) (st)) : zJ K D cl A nL Q (cells) (slots) (σ) (pc) (lv) (iv b :: iv a :: st) := by
  obtain ⟨p, l, e, R, s, m, args, below, meth, c⟩ := K
  intro H locs ls hG hS hL
  exact lv_icmp_ge C.1 C.2.1 hd ht (fun q => kt ((z32_le rb ra).mp q) H locs ls hG hS hL) (fun q => kf (by have q2 : ¬ (b ≤ a) := fun z => q ((z32_le rb ra).mpr z); omega) H locs ls hG hS hL)
theorem z_icmp_gt (C : zCx K D cl A tys F rm cc own nm Ts nL ret) {a b : Int} {off : Int} (tgt : Nat) (ra : -2147483648 ≤ a ∧ a ≤ 2147483647) (rb : -2147483648 ≤ b ∧ b ≤ 2147483647) (hd : decode cc pc = .ok (.if_icmp .gt off, 3)) (ht : (pc : Int) + off = (tgt : Int)) (kt : b < a → zJ K D cl A nL Q (cells) (slots) (σ) (tgt) (lv) (st)) (kf : a ≤ b → zJ K D cl A nL Q (cells) (slots) (σ) (pc + 3) (lv) (st)) : zJ K D cl A nL Q (cells) (slots) (σ) (pc) (lv) (iv b :: iv a :: st) := by
  obtain ⟨p, l, e, R, s, m, args, below, meth, c⟩ := K
  intro H locs ls hG hS hL
  exact lv_icmp_gt C.1 C.2.1 hd ht (fun q => kt ((z32_lt rb ra).mp q) H locs ls hG hS hL) (fun q => kf (by have q2 : ¬ (b < a) := fun z => q ((z32_lt rb ra).mpr z); omega) H locs ls hG hS hL)
theorem z_icmp_le (C : zCx K D cl A tys F rm cc own nm Ts nL ret) {a b : Int} {off : Int} (tgt : Nat) (ra : -2147483648 ≤ a ∧ a ≤ 2147483647) (rb : -2147483648 ≤ b ∧ b ≤ 2147483647) (hd : decode cc pc = .ok (.if_icmp .le off, 3)) (ht : (pc : Int) + off = (tgt : Int)) (kt : a ≤ b → zJ K D cl A nL Q (cells) (slots) (σ) (tgt) (lv) (st)) (kf : b < a → zJ K D cl A nL Q (cells) (slots) (σ) (pc + 3) (lv) (st)) : zJ K D cl A nL Q (cells) (slots) (σ) (pc) (lv) (iv b :: iv a :: st) := by
  obtain ⟨p, l, e, R, s, m, args, below, meth, c⟩ := K
  intro H locs ls hG hS hL
  exact lv_icmp_le C.1 C.2.1 hd ht (fun q => kt ((z32_le ra rb).mp q) H locs ls hG hS hL) (fun q => kf (by have q2 : ¬ (a ≤ b) := fun z => q ((z32_le ra rb).mpr z); omega) H locs ls hG hS hL)
theorem z_icmp_ne (C : zCx K D cl A tys F rm cc own nm Ts nL ret) {a b : Int} {off : Int} (tgt : Nat) (ra : -2147483648 ≤ a ∧ a ≤ 2147483647) (rb : -2147483648 ≤ b ∧ b ≤ 2147483647) (hd : decode cc pc = .ok (.if_icmp .ne off, 3)) (ht : (pc : Int) + off = (tgt : Int)) (kt : a ≠ b → zJ K D cl A nL Q (cells) (slots) (σ) (tgt) (lv) (st)) (kf : a = b → zJ K D cl A nL Q (cells) (slots) (σ) (pc + 3) (lv) (st)) : zJ K D cl A nL Q (cells) (slots) (σ) (pc) (lv) (iv b :: iv a :: st) := by
  obtain ⟨p, l, e, R, s, m, args, below, meth, c⟩ := K
  intro H locs ls hG hS hL
  exact lv_icmp_ne C.1 C.2.1 hd ht (fun q => kt (fun z => q (by rw [z])) H locs ls hG hS hL) (fun q => kf ((z32_eq ra rb).mp q) H locs ls hG hS hL)
theorem z_if_eq (C : zCx K D cl A tys F rm cc own nm Ts nL ret) {a : Int} {off : Int} (tgt : Nat) (ra : -2147483648 ≤ a ∧ a ≤ 2147483647) (hd : decode cc pc = .ok (.ifCond .eq off, 3)) (ht : (pc : Int) + off = (tgt : Int)) (kt : a = 0 → zJ K D cl A nL Q (cells) (slots) (σ) (tgt) (lv) (st)) (kf : a ≠ 0 → zJ K D cl A nL Q (cells) (slots) (σ) (pc + 3) (lv) (st)) : zJ K D cl A nL Q (cells) (slots) (σ) (pc) (lv) (iv a :: st) := by
  obtain ⟨p, l, e, R, s, m, args, below, meth, c⟩ := K
  intro H locs ls hG hS hL
  have e0 := z32_eq ra (b := 0) (by omega)
  rw [z32_0] at e0
  exact lv_if_eq C.1 C.2.1 hd ht (fun q => kt (e0.mp q) H locs ls hG hS hL) (fun q => kf (by have q2 : ¬ (a = 0) := fun z => q (e0.mpr z); omega) H locs ls hG hS hL)
theorem z_if_lt (C : zCx K D cl A tys F rm cc own nm Ts nL ret) {a : Int} {off : Int} (tgt : Nat) (ra : -2147483648 ≤ a ∧ a ≤ 2147483647) (hd : decode cc pc = .ok (.ifCond .lt off, 3)) (ht : (pc : Int) + off = (tgt : Int)) (kt : a < 0 → zJ K D cl A nL Q (cells) (slots) (σ) (tgt) (lv) (st)) (kf : 0 ≤ a → zJ K D cl A nL Q (cells) (slots) (σ) (pc + 3) (lv) (st)) : zJ K D cl A nL Q (cells) (slots) (σ) (pc) (lv) (iv a :: st) := by
  obtain ⟨p, l, e, R, s, m, args, below, meth, c⟩ := K
  intro H locs ls hG hS hL
  have e0 := z32_lt ra (b := 0) (by omega)
  rw [z32_0] at e0
  exact lv_if_lt C.1 C.2.1 hd ht (fun q => kt (e0.mp q) H locs ls hG hS hL) (fun q => kf (by have q2 : ¬ (a < 0) := fun z => q (e0.mpr z); omega) H locs ls hG hS hL)
theorem z_if_ge (C : zCx K D cl A tys F rm cc own nm Ts nL ret) {a : Int} {off : Int} (tgt : Nat) (ra : -2147483648 ≤ a ∧ a ≤ 2147483647) (hd : decode cc pc = .ok (.ifCond .ge off, 3)) (ht : (pc : Int) + off = (tgt : Int)) (kt : 0 ≤ a → zJ K D cl A nL Q (cells) (slots) (σ) (tgt) (lv) (st)) (kf : a < 0 → zJ K D cl A nL Q (cells) (slots) (σ) (pc + 3) (lv) (st)) : zJ K D cl A nL Q (cells) (slots) (σ) (pc) (lv) (iv a :: st) := by
  obtain ⟨p, l, e, R, s, m, args, below, meth, c⟩ := K
  intro H locs ls hG hS hL
  have e0 := z32_le (a := 0) (by omega) ra
  rw [z32_0] at e0
  exact lv_if_ge C.1 C.2.1 hd ht (fun q => kt (e0.mp q) H locs ls hG hS hL) (fun q => kf (by have q2 : ¬ (0 ≤ a) := fun z => q (e0.mpr z); omega) H locs ls hG hS hL)
theorem z_if_gt (C : zCx K D cl A tys F rm cc own nm Ts nL ret) {a : Int} {off : Int} (tgt : Nat) (ra : -2147483648 ≤ a ∧ a ≤ 2147483647) (hd : decode cc pc = .ok (.ifCond .gt off, 3)) (ht : (pc : Int) + off = (tgt : Int)) (kt : 0 < a → zJ K D cl A nL Q (cells) (slots) (σ) (tgt) (lv) (st)) (kf : a ≤ 0 → zJ K D cl A nL Q (cells) (slots) (σ) (pc + 3) (lv) (st)) : zJ K D cl A nL Q (cells) (slots) (σ) (pc) (lv) (iv a :: st) := by
  obtain ⟨p, l, e, R, s, m, args, below, meth, c⟩ := K
  intro H locs ls hG hS hL
  have e0 := z32_lt (a := 0) (by omega) ra
  rw [z32_0] at e0
  exact lv_if_gt C.1 C.2.1 hd ht (fun q => kt (e0.mp q) H locs ls hG hS hL) (fun q => kf (by have q2 : ¬ (0 < a) := fun z => q (e0.mpr z); omega) H locs ls hG hS hL)
theorem z_if_le (C : zCx K D cl A tys F rm cc own nm Ts nL ret) {a : Int} {off : Int} (tgt : Nat) (ra : -2147483648 ≤ a ∧ a ≤ 2147483647) (hd : decode cc pc = .ok (.ifCond .le off, 3)) (ht : (pc : Int) + off = (tgt : Int)) (kt : a ≤ 0 → zJ K D cl A nL Q (cells) (slots) (σ) (tgt) (lv) (st)) (kf : 0 < a → zJ K D cl A nL Q (cells) (slots) (σ) (pc + 3) (lv) (st)) : zJ K D cl A nL Q (cells) (slots) (σ) (pc) (lv) (iv a :: st) := by
  obtain ⟨p, l, e, R, s, m, args, below, meth, c⟩ := K
  intro H locs ls hG hS hL
  have e0 := z32_le ra (b := 0) (by omega)
  rw [z32_0] at e0
  exact lv_if_le C.1 C.2.1 hd ht (fun q => kt (e0.mp q) H locs ls hG hS hL) (fun q => kf (by have q2 : ¬ (a ≤ 0) := fun z => q (e0.mpr z); omega) H locs ls hG hS hL)
theorem z_if_ne (C : zCx K D cl A tys F rm cc own nm Ts nL ret) {a : Int} {off : Int} (tgt : Nat) (ra : -2147483648 ≤ a ∧ a ≤ 2147483647) (hd : decode cc pc = .ok (.ifCond .ne off, 3)) (ht : (pc : Int) + off = (tgt : Int)) (kt : a ≠ 0 → zJ K D cl A nL Q (cells) (slots) (σ) (tgt) (lv) (st)) (kf : a = 0 → zJ K D cl A nL Q (cells) (slots) (σ) (pc + 3) (lv) (st)) : zJ K D cl A nL Q (cells) (slots) (σ) (pc) (lv) (iv a :: st) := by
  obtain ⟨p, l, e, R, s, m, args, below, meth, c⟩ := K
  intro H locs ls hG hS hL
  have e0 := z32_eq ra (b := 0) (by omega)
  rw [z32_0] at e0
  exact lv_if_ne C.1 C.2.1 hd ht (fun q => kt (fun z => q (e0.mpr z)) H locs ls hG hS hL) (fun q => kf (e0.mp q) H locs ls hG hS hL)
theorem z_goto (C : zCx K D cl A tys F rm cc own nm Ts nL ret) {off : Int} (tgt : Nat) (hd : decode cc pc = .ok (.goto off, 3)) (ht : (pc : Int) + off = (tgt : Int)) (k : zJ K D cl A nL Q (cells) (slots) (σ) (tgt) (lv) (st)) : zJ K D cl A nL Q (cells) (slots) (σ) (pc) (lv) (st) := by
  obtain ⟨p, l, e, R, s, m, args, below, meth, c⟩ := K
  intro H locs ls hG hS hL
  exact lv_goto C.1 C.2.1 hd ht (k H locs ls hG hS hL)
theorem z_ifnull (C : zCx K D cl A tys F rm cc own nm Ts nL ret) {x : Nat} {off : Int} (hd : decode cc pc = .ok (.ifnull off, 3)) (k : zJ K D cl A nL Q (cells) (slots) (σ) (pc + 3) (lv) (st)) : zJ K D cl A nL Q (cells) (slots) (σ) (pc) (lv) (.ref x :: st) := by
  obtain ⟨p, l, e, R, s, m, args, below, meth, c⟩ := K
  intro H locs ls hG hS hL
  exact lv_ifnull C.1 C.2.1 hd (k H locs ls hG hS hL)
theorem z_ifnullN (C : zCx K D cl A tys F rm cc own nm Ts nL ret) {off : Int} (tgt : Nat) (hd : decode cc pc = .ok (.ifnull off, 3)) (ht : (pc : Int) + off = (tgt : Int)) (k : zJ K D cl A nL Q (cells) (slots) (σ) (tgt) (lv) (st)) : zJ K D cl A nL Q (cells) (slots) (σ) (pc) (lv) (.null :: st) := by
  obtain ⟨p, l, e, R, s, m, args, below, meth, c⟩ := K
  intro H locs ls hG hS hL
  exact lv_ifnullN C.1 C.2.1 hd ht (k H locs ls hG hS hL)
theorem z_ifnonnull (C : zCx K D cl A tys F rm cc own nm Ts nL ret) {x : Nat} {off : Int} (tgt : Nat) (hd : decode cc pc = .ok (.ifnonnull off, 3)) (ht : (pc : Int) + off = (tgt : Int)) (k : zJ K D cl A nL Q (cells) (slots) (σ) (tgt) (lv) (st)) : zJ K D cl A nL Q (cells) (slots) (σ) (pc) (lv) (.ref x :: st) := by
  obtain ⟨p, l, e, R, s, m, args, below, meth, c⟩ := K
  intro H locs ls hG hS hL
  exact lv_ifnonnull C.1 C.2.1 hd ht (k H locs ls hG hS hL)
theorem z_ifnonnullN (C : zCx K D cl A tys F rm cc own nm Ts nL ret) {off : Int} (hd : decode cc pc = .ok (.ifnonnull off, 3)) (k : zJ K D cl A nL Q (cells) (slots) (σ) (pc + 3) (lv) (st)) : zJ K D cl A nL Q (cells) (slots) (σ) (pc) (lv) (.null :: st) := by
  obtain ⟨p, l, e, R, s, m, args, below, meth, c⟩ := K
  intro H locs ls hG hS hL
  exact lv_ifnonnullN C.1 C.2.1 hd (k H locs ls hG hS hL)
theorem z_acmp_eq (C : zCx K D cl A tys F rm cc own nm Ts nL ret) {x y : Nat} {off : Int} (tgt : Nat) (hd : decode cc pc = .ok (.if_acmp .eq off, 3)) (ht : (pc : Int) + off = (tgt : Int)) (kt : x = y → zJ K D cl A nL Q (cells) (slots) (σ) (tgt) (lv) (st)) (kf : x ≠ y → zJ K D cl A nL Q (cells) (slots) (σ) (pc + 3) (lv) (st)) : zJ K D cl A nL Q (cells) (slots) (σ) (pc) (lv) (.ref y :: .ref x :: st) := by
  obtain ⟨p, l, e, R, s, m, args, below, meth, c⟩ := K
  intro H locs ls hG hS hL
  exact lv_acmp_eq (rx := some x) (ry := some y) C.1 C.2.1 hd ht (fun q => kt (Option.some.inj q) H locs ls hG hS hL) (fun q => kf (fun z => q (by rw [z])) H locs ls hG hS hL)
theorem z_acmp_ne (C : zCx K D cl A tys F rm cc own nm Ts nL ret) {x y : Nat} {off : Int} (tgt : Nat) (hd : decode cc pc = .ok (.if_acmp .ne off, 3)) (ht : (pc : Int) + off = (tgt : Int)) (kt : x ≠ y → zJ K D cl A nL Q (cells) (slots) (σ) (tgt) (lv) (st)) (kf : x = y → zJ K D cl A nL Q (cells) (slots) (σ) (pc + 3) (lv) (st)) : zJ K D cl A nL Q (cells) (slots) (σ) (pc) (lv) (.ref y :: .ref x :: st) := by
  obtain ⟨p, l, e, R, s, m, args, below, meth, c⟩ := K
  intro H locs ls hG hS hL
  exact lv_acmp_ne (rx := some x) (ry := some y) C.1 C.2.1 hd ht (fun q => kt (fun z => q (by rw [z])) H locs ls hG hS hL) (fun q => kf (Option.some.inj q) H locs ls hG hS hL)
theorem z_lcmp (C : zCx K D cl A tys F rm cc own nm Ts nL ret) {a b : Int} (ra : -9223372036854775808 ≤ a ∧ a ≤ 9223372036854775807) (rb : -9223372036854775808 ≤ b ∧ b ≤ 9223372036854775807) (hd : decode cc pc = .ok (.lcmp, 1)) (k : ∀ v : Int, (v = 1 ∧ b < a) ∨ (v = 0 ∧ a = b) ∨ (v = -1 ∧ a < b) → zJ K D cl A nL Q (cells) (slots) (σ) (pc + 1) (lv) (iv v :: st)) : zJ K D cl A nL Q (cells) (slots) (σ) (pc) (lv) (jv b :: jv a :: st) := by
  obtain ⟨p, l, e, R, s, m, args, below, meth, c⟩ := K
  intro H locs ls hG hS hL
  refine W.lcmp C.1 C.2.1 hd ?_
  by_cases h1 : b < a
  · rw [show lg_cmp (Int64.ofInt a) (Int64.ofInt b) = Int32.ofInt 1 from by simp [lg_cmp, (z64_lt rb ra).mpr h1]]
    exact k 1 (Or.inl ⟨rfl, h1⟩) H locs ls hG hS hL
  · by_cases h2 : a = b
    · subst h2
      rw [show lg_cmp (Int64.ofInt a) (Int64.ofInt a) = Int32.ofInt 0 from by simp [lg_cmp]]
      exact k 0 (Or.inr (Or.inl ⟨rfl, rfl⟩)) H locs ls hG hS hL
    · rw [show lg_cmp (Int64.ofInt a) (Int64.ofInt b) = Int32.ofInt (-1) from by simp [lg_cmp, mt (z64_lt rb ra).mp h1, mt (z64_eq ra rb).mp h2]]
      exact k (-1) (Or.inr (Or.inr ⟨rfl, by omega⟩)) H locs ls hG hS hL
theorem z_tableOut (C : zCx K D cl A tys F rm cc own nm Ts nL ret) {dflt lo hi : Int} {offs : Array Int} {len : Nat} {a : Int} (tgt : Nat) (ra : -2147483648 ≤ a ∧ a ≤ 2147483647) (hd : decode cc pc = .ok (.tableswitch dflt lo hi offs, len)) (h : a < lo ∨ hi < a) (ht : (pc : Int) + dflt = (tgt : Int)) (k : zJ K D cl A nL Q (cells) (slots) (σ) (tgt) (lv) (st)) : zJ K D cl A nL Q (cells) (slots) (σ) (pc) (lv) (iv a :: st) := by
  obtain ⟨p, l, e, R, s, m, args, below, meth, c⟩ := K
  intro H locs ls hG hS hL
  exact lv_tableOut C.1 C.2.1 hd (by rw [z32 ra]; exact h) ht (k H locs ls hG hS hL)
theorem z_tableIn (C : zCx K D cl A tys F rm cc own nm Ts nL ret) {dflt lo hi : Int} {offs : Array Int} {len : Nat} {a off : Int} (tgt : Nat) (ra : -2147483648 ≤ a ∧ a ≤ 2147483647) (hd : decode cc pc = .ok (.tableswitch dflt lo hi offs, len)) (h1 : ¬ a < lo) (h2 : ¬ hi < a) (ho : offs[(a - lo).toNat]? = some off) (ht : (pc : Int) + off = (tgt : Int)) (k : zJ K D cl A nL Q (cells) (slots) (σ) (tgt) (lv) (st)) : zJ K D cl A nL Q (cells) (slots) (σ) (pc) (lv) (iv a :: st) := by
  obtain ⟨p, l, e, R, s, m, args, below, meth, c⟩ := K
  intro H locs ls hG hS hL
  exact lv_tableIn C.1 C.2.1 hd (by rw [z32 ra]; exact h1) (by rw [z32 ra]; exact h2) (by rw [z32 ra]; exact ho) ht (k H locs ls hG hS hL)
theorem z_iald (C : zCx K D cl A tys F rm cc own nm Ts nL ret) {cA : ClassId} {n a : Nat} {f : Nat → Int} {i : Int} (t0 : Nat) (ht : tys[t0]? = some (cA, .int)) (h : σ a = some (ia cA n f)) (k : Nat) (hk : i = (k : Int)) (hn : k < n) (hm : n ≤ 2147483647) (hd : decode cc pc = .ok (.iaload, 1)) (kk : zJ K D cl A nL Q (cells) (slots) (σ) (pc + 1) (lv) (iv (f k) :: st)) : zJ K D cl A nL Q (cells) (slots) (σ) (pc) (lv) (iv i :: .ref a :: st) := by
  obtain ⟨p, l, e, R, s, m, args, below, meth, c⟩ := K
  intro H locs ls hG hS hL
  obtain ⟨ws, hP, hD, hW⟩ := id hG
  obtain ⟨j, hj⟩ := hW a _ h
  refine va_iald C.1 C.2.1 C.2.2.2.2.2.2.2.1 hP j t0 hj ht (zin hk (by omega) hn) hd ?_
  rw [zidx hk (by omega)]
  exact kk H locs ls hG hS hL
theorem z_zald (C : zCx K D cl A tys F rm cc own nm Ts nL ret) {cA : ClassId} {n a : Nat} {f : Nat → Int} {i : Int} (t0 : Nat) (ht : tys[t0]? = some (cA, .boolean)) (h : σ a = some (ia cA n f)) (k : Nat) (hk : i = (k : Int)) (hn : k < n) (hm : n ≤ 2147483647) (hd : decode cc pc = .ok (.baload, 1)) (kk : zJ K D cl A nL Q (cells) (slots) (σ) (pc + 1) (lv) (iv (f k) :: st)) : zJ K D cl A nL Q (cells) (slots) (σ) (pc) (lv) (iv i :: .ref a :: st) := by
  obtain ⟨p, l, e, R, s, m, args, below, meth, c⟩ := K
  intro H locs ls hG hS hL
  obtain ⟨ws, hP, hD, hW⟩ := id hG
  obtain ⟨j, hj⟩ := hW a _ h
  refine va_zald C.1 C.2.1 C.2.2.2.2.2.2.2.1 hP j t0 hj ht (zin hk (by omega) hn) hd ?_
  rw [zidx hk (by omega)]
  exact kk H locs ls hG hS hL
theorem z_lald (C : zCx K D cl A tys F rm cc own nm Ts nL ret) {cA : ClassId} {n a : Nat} {f : Nat → Int} {i : Int} (t0 : Nat) (ht : tys[t0]? = some (cA, .long)) (h : σ a = some (la cA n f)) (k : Nat) (hk : i = (k : Int)) (hn : k < n) (hm : n ≤ 2147483647) (hd : decode cc pc = .ok (.laload, 1)) (kk : zJ K D cl A nL Q (cells) (slots) (σ) (pc + 1) (lv) (jv (f k) :: st)) : zJ K D cl A nL Q (cells) (slots) (σ) (pc) (lv) (iv i :: .ref a :: st) := by
  obtain ⟨p, l, e, R, s, m, args, below, meth, c⟩ := K
  intro H locs ls hG hS hL
  obtain ⟨ws, hP, hD, hW⟩ := id hG
  obtain ⟨j, hj⟩ := hW a _ h
  refine va_lald C.1 C.2.1 C.2.2.2.2.2.2.2.1 hP j t0 hj ht (zin hk (by omega) hn) hd ?_
  rw [zidx hk (by omega)]
  exact kk H locs ls hG hS hL
theorem z_aald (C : zCx K D cl A tys F rm cc own nm Ts nL ret) {cA : ClassId} {n a : Nat} {f : Nat → Option Nat} {i : Int} {cn : String} (t0 : Nat) (ht : tys[t0]? = some (cA, .object cn)) (h : σ a = some (ra cA n f)) (k : Nat) (hk : i = (k : Int)) (hn : k < n) (hm : n ≤ 2147483647) (hd : decode cc pc = .ok (.aaload, 1)) (kk : zJ K D cl A nL Q (cells) (slots) (σ) (pc + 1) (lv) (va_rf (f k) :: st)) : zJ K D cl A nL Q (cells) (slots) (σ) (pc) (lv) (iv i :: .ref a :: st) := by
  obtain ⟨p, l, e, R, s, m, args, below, meth, c⟩ := K
  intro H locs ls hG hS hL
  obtain ⟨ws, hP, hD, hW⟩ := id hG
  obtain ⟨j, hj⟩ := hW a _ h
  refine va_aldq C.1 C.2.1 C.2.2.2.2.2.2.2.1 hP j t0 hj ht (zin hk (by omega) hn) hd ?_
  rw [zidx hk (by omega)]
  exact kk H locs ls hG hS hL
theorem z_iast (C : zCx K D cl A tys F rm cc own nm Ts nL ret) {cA : ClassId} {n a : Nat} {f : Nat → Int} {i v : Int} (t0 : Nat) (ht : tys[t0]? = some (cA, .int)) (h : σ a = some (ia cA n f)) (k : Nat) (hk : i = (k : Int)) (hn : k < n) (hm : n ≤ 2147483647) (hd : decode cc pc = .ok (.iastore, 1)) (kk : zJ K D cl A nL Q (cells) (slots) (zput σ a (ia cA n (iup f k v))) (pc + 1) (lv) (st)) : zJ K D cl A nL Q (cells) (slots) (σ) (pc) (lv) (iv v :: iv i :: .ref a :: st) := by
  obtain ⟨p, l, e, R, s, m, args, below, meth, c⟩ := K
  intro H locs ls hG hS hL
  obtain ⟨ws, hP, hD, hW⟩ := id hG
  obtain ⟨j, hj⟩ := hW a _ h
  refine va_iast C.1 C.2.1 C.2.2.2.2.2.2.2.1 hP hD hS j t0 hj ht (zin hk (by omega) hn) hd (fun H1 locs1 hP1 hD1 hS1 => ?_)
  rw [zidx hk (by omega), zup_i] at hP1 hD1
  exact kk H1 locs1 ls (zG.set hW hj hP1 hD1) hS1 hL
theorem z_zast (C : zCx K D cl A tys F rm cc own nm Ts nL ret) {cA : ClassId} {n a : Nat} {f : Nat → Int} {i v : Int} (t0 : Nat) (ht : tys[t0]? = some (cA, .boolean)) (h : σ a = some (ia cA n f)) (k : Nat) (hk : i = (k : Int)) (hn : k < n) (hm : n ≤ 2147483647) (hv : v = 0 ∨ v = 1) (hd : decode cc pc = .ok (.bastore, 1)) (kk : zJ K D cl A nL Q (cells) (slots) (zput σ a (ia cA n (iup f k v))) (pc + 1) (lv) (st)) : zJ K D cl A nL Q (cells) (slots) (σ) (pc) (lv) (iv v :: iv i :: .ref a :: st) := by
  obtain ⟨p, l, e, R, s, m, args, below, meth, c⟩ := K
  intro H locs ls hG hS hL
  obtain ⟨ws, hP, hD, hW⟩ := id hG
  obtain ⟨j, hj⟩ := hW a _ h
  refine va_zast C.1 C.2.1 C.2.2.2.2.2.2.2.1 hP hD hS j t0 hj ht (zin hk (by omega) hn) hd (fun H1 locs1 hP1 hD1 hS1 => ?_)
  rw [zidx hk (by omega), znar hv, zup_i] at hP1 hD1
  exact kk H1 locs1 ls (zG.set hW hj hP1 hD1) hS1 hL
theorem z_last (C : zCx K D cl A tys F rm cc own nm Ts nL ret) {cA : ClassId} {n a : Nat} {f : Nat → Int} {i v : Int} (t0 : Nat) (ht : tys[t0]? = some (cA, .long)) (h : σ a = some (la cA n f)) (k : Nat) (hk : i = (k : Int)) (hn : k < n) (hm : n ≤ 2147483647) (hd : decode cc pc = .ok (.lastore, 1)) (kk : zJ K D cl A nL Q (cells) (slots) (zput σ a (la cA n (iup f k v))) (pc + 1) (lv) (st)) : zJ K D cl A nL Q (cells) (slots) (σ) (pc) (lv) (jv v :: iv i :: .ref a :: st) := by
  obtain ⟨p, l, e, R, s, m, args, below, meth, c⟩ := K
  intro H locs ls hG hS hL
  obtain ⟨ws, hP, hD, hW⟩ := id hG
  obtain ⟨j, hj⟩ := hW a _ h
  refine va_last C.1 C.2.1 C.2.2.2.2.2.2.2.1 hP hD hS j t0 hj ht (zin hk (by omega) hn) hd (fun H1 locs1 hP1 hD1 hS1 => ?_)
  rw [zidx hk (by omega), zup_l] at hP1 hD1
  exact kk H1 locs1 ls (zG.set hW hj hP1 hD1) hS1 hL
theorem z_aast (C : zCx K D cl A tys F rm cc own nm Ts nL ret) {cA : ClassId} {n a b ci : Nat} {r : vw_C} {vs : List Value} {f : Nat → Option Nat} {i : Int} (t0 : Nat) (ht : tys[t0]? = some (cA, .object r.1)) (h : σ a = some (ra cA n f)) (hb : σ b = some (ob ci vs)) (hc : cl[ci]? = some r) (k : Nat) (hk : i = (k : Int)) (hn : k < n) (hm : n ≤ 2147483647) (hd : decode cc pc = .ok (.aastore, 1)) (kk : zJ K D cl A nL Q (cells) (slots) (zput σ a (ra cA n (va_up f k (some b)))) (pc + 1) (lv) (st)) : zJ K D cl A nL Q (cells) (slots) (σ) (pc) (lv) (.ref b :: iv i :: .ref a :: st) := by
  obtain ⟨p, l, e, R, s, m, args, below, meth, c⟩ := K
  intro H locs ls hG hS hL
  obtain ⟨ws, hP, hD, hW⟩ := id hG
  obtain ⟨j, hj⟩ := hW a _ h
  obtain ⟨jb, hjb⟩ := hW b _ hb
  refine va_astq C.1 C.2.1 C.2.2.2.2.2.2.2.1 hP hD hS j t0 jb ci hj ht hjb hc (zin hk (by omega) hn) hd (fun H1 locs1 hP1 hD1 hS1 => ?_)
  rw [zidx hk (by omega)] at hP1 hD1
  exact kk H1 locs1 ls (zG.set hW hj hP1 hD1) hS1 hL
theorem z_aastN (C : zCx K D cl A tys F rm cc own nm Ts nL ret) {cA : ClassId} {n a : Nat} {cn : String} {f : Nat → Option Nat} {i : Int} (t0 : Nat) (ht : tys[t0]? = some (cA, .object cn)) (h : σ a = some (ra cA n f)) (k : Nat) (hk : i = (k : Int)) (hn : k < n) (hm : n ≤ 2147483647) (hd : decode cc pc = .ok (.aastore, 1)) (kk : zJ K D cl A nL Q (cells) (slots) (zput σ a (ra cA n (va_up f k none))) (pc + 1) (lv) (st)) : zJ K D cl A nL Q (cells) (slots) (σ) (pc) (lv) (.null :: iv i :: .ref a :: st) := by
  obtain ⟨p, l, e, R, s, m, args, below, meth, c⟩ := K
  intro H locs ls hG hS hL
  obtain ⟨ws, hP, hD, hW⟩ := id hG
  obtain ⟨j, hj⟩ := hW a _ h
  refine va_astqN C.1 C.2.1 C.2.2.2.2.2.2.2.1 hP hD hS j t0 hj ht (zin hk (by omega) hn) hd (fun H1 locs1 hP1 hD1 hS1 => ?_)
  rw [zidx hk (by omega)] at hP1 hD1
  exact kk H1 locs1 ls (zG.set hW hj hP1 hD1) hS1 hL
theorem z_alen (C : zCx K D cl A tys F rm cc own nm Ts nL ret) {cA : ClassId} {x : vp_A} {a : Nat} {ty : FieldType} (t0 : Nat) (ht : tys[t0]? = some (cA, ty)) (h : σ a = some (.inl (cA, x))) (v : Int) (hv : Int32.ofNat x.1 = Int32.ofInt v) (hd : decode cc pc = .ok (.arraylength, 1)) (kk : zJ K D cl A nL Q (cells) (slots) (σ) (pc + 1) (lv) (iv v :: st)) : zJ K D cl A nL Q (cells) (slots) (σ) (pc) (lv) (.ref a :: st) := by
  obtain ⟨p, l, e, R, s, m, args, below, meth, c⟩ := K
  intro H locs ls hG hS hL
  obtain ⟨ws, hP, hD, hW⟩ := id hG
  obtain ⟨j, hj⟩ := hW a _ h
  exact va_alen C.1 C.2.1 C.2.2.2.2.2.2.2.1 hP j t0 hj ht hv hd (kk H locs ls hG hS hL)
theorem z_get (C : zCx K D cl A tys F rm cc own nm Ts nL ret) {ref cn : String} {T : u_T} {N ci index a : Nat} {fs : List Value} {v : Value} (hin : ∀ w ∈ u_ws cn T N, w ∈ Ts) (h : σ a = some (ob ci fs)) (hc : cl[ci]? = some (cn, T, N)) (k : Nat) (hk : k < N) (hl : Cond.fieldLink own index ref (T k).2.1 (T k).2.2.1 ∈ Ts) (hr : (T k).1 = ref) (hv : fs[k]? = some v) (hd : decode cc pc = .ok (.getfield index, 3)) (kk : zJ K D cl A nL Q (cells) (slots) (σ) (pc + 3) (lv) (v :: st)) : zJ K D cl A nL Q (cells) (slots) (σ) (pc) (lv) (.ref a :: st) := by
  obtain ⟨p, l, e, R, s, m, args, below, meth, c⟩ := K
  intro H locs ls hG hS hL
  obtain ⟨ws, hP, hD, hW⟩ := id hG
  obtain ⟨j, hj⟩ := hW a _ h
  exact va_get C.1 C.2.1 C.2.2.2.2.1 hin C.2.2.2.1 C.2.2.2.2.2.2.2.1 hP j hj hc k hk (C.2.2.2.2.1 _ hl) (fun x hx => by rw [← hr]; exact hx) hv hd (kk H locs ls hG hS hL)
theorem z_getN (C : zCx K D cl A tys F rm cc own nm Ts nL ret) {ref cn host : String} {T : u_T} {N ci index a : Nat} {fs : List Value} {v : Value} (hin : ∀ w ∈ u_ws cn T N, w ∈ Ts) (h : σ a = some (ob ci fs)) (hc : cl[ci]? = some (cn, T, N)) (k : Nat) (hk : k < N) (hl : ∀ s : State, F s → va_Nw (.fieldLinkNest own index ref (T k).2.1 (T k).2.2.1 host) s) (hr : (T k).1 = ref) (hv : fs[k]? = some v) (hd : decode cc pc = .ok (.getfield index, 3)) (kk : zJ K D cl A nL Q (cells) (slots) (σ) (pc + 3) (lv) (v :: st)) : zJ K D cl A nL Q (cells) (slots) (σ) (pc) (lv) (.ref a :: st) := by
  obtain ⟨p, l, e, R, s, m, args, below, meth, c⟩ := K
  intro H locs ls hG hS hL
  obtain ⟨ws, hP, hD, hW⟩ := id hG
  obtain ⟨j, hj⟩ := hW a _ h
  exact va_getN C.1 C.2.1 C.2.2.2.2.1 hin C.2.2.2.1 C.2.2.2.2.2.2.2.1 hP j hj hc k hk (va_Nw.use rfl (hl s C.2.2.2.2.2.2.2.2.2.1)) (fun x hx => by rw [← hr]; exact hx) hv hd (kk H locs ls hG hS hL)
theorem z_put (C : zCx K D cl A tys F rm cc own nm Ts nL ret) {ref cn : String} {T : u_T} {N ci index a : Nat} {fs : List Value} {ty : FieldType} {v : Value} (hin : ∀ w ∈ u_ws cn T N, w ∈ Ts) (ty0 : Nat → FieldType) (hty : ∀ k, k < N → parseFieldDescriptor (T k).2.2.1 = some (ty0 k)) (hnm : ∀ a, a < N → ∀ b, b < N → a ≠ b → (T a).2.1 ≠ (T b).2.1) (h : σ a = some (ob ci fs)) (hc : cl[ci]? = some (cn, T, N)) (k : Nat) (hk : k < N) (hl : Cond.fieldLink own index ref (T k).2.1 (T k).2.2.1 ∈ Ts) (hr : (T k).1 = ref) (hfin : (T k).2.2.2 = false) (hd9 : parseFieldDescriptor (T k).2.2.1 = some ty) (hnn : narrow ty v = v) (hfit : fits ty v = true) (hl9 : k < fs.length) (hd : decode cc pc = .ok (.putfield index, 3)) (kk : zJ K D cl A nL Q (cells) (slots) (zput σ a (ob ci (fs.set k v))) (pc + 3) (lv) (st)) : zJ K D cl A nL Q (cells) (slots) (σ) (pc) (lv) (v :: .ref a :: st) := by
  obtain ⟨p, l, e, R, s, m, args, below, meth, c⟩ := K
  intro H locs ls hG hS hL
  obtain ⟨ws, hP, hD, hW⟩ := id hG
  obtain ⟨j, hj⟩ := hW a _ h
  exact va_put C.1 C.2.1 C.2.2.2.2.1 hin ty0 hty hnm C.2.2.2.1 C.2.2.2.2.2.2.2.1 hP hD hS j hj hc k hk (C.2.2.2.2.1 _ hl) (fun x hx => by rw [← hr]; exact hx) hfin hd9 hnn hfit hl9 hd (fun H1 locs1 hP1 hD1 hS1 => kk H1 locs1 ls (zG.set hW hj hP1 hD1) hS1 hL)
theorem z_putN (C : zCx K D cl A tys F rm cc own nm Ts nL ret) {ref cn host : String} {T : u_T} {N ci index a : Nat} {fs : List Value} {ty : FieldType} {v : Value} (hin : ∀ w ∈ u_ws cn T N, w ∈ Ts) (ty0 : Nat → FieldType) (hty : ∀ k, k < N → parseFieldDescriptor (T k).2.2.1 = some (ty0 k)) (hnm : ∀ a, a < N → ∀ b, b < N → a ≠ b → (T a).2.1 ≠ (T b).2.1) (h : σ a = some (ob ci fs)) (hc : cl[ci]? = some (cn, T, N)) (k : Nat) (hk : k < N) (hl : ∀ s : State, F s → va_Nw (.fieldLinkNest own index ref (T k).2.1 (T k).2.2.1 host) s) (hr : (T k).1 = ref) (hfin : (T k).2.2.2 = false) (hd9 : parseFieldDescriptor (T k).2.2.1 = some ty) (hnn : narrow ty v = v) (hfit : fits ty v = true) (hl9 : k < fs.length) (hd : decode cc pc = .ok (.putfield index, 3)) (kk : zJ K D cl A nL Q (cells) (slots) (zput σ a (ob ci (fs.set k v))) (pc + 3) (lv) (st)) : zJ K D cl A nL Q (cells) (slots) (σ) (pc) (lv) (v :: .ref a :: st) := by
  obtain ⟨p, l, e, R, s, m, args, below, meth, c⟩ := K
  intro H locs ls hG hS hL
  obtain ⟨ws, hP, hD, hW⟩ := id hG
  obtain ⟨j, hj⟩ := hW a _ h
  exact va_putN C.1 C.2.1 C.2.2.2.2.1 hin ty0 hty hnm C.2.2.2.1 C.2.2.2.2.2.2.2.1 hP hD hS j hj hc k hk (va_Nw.use rfl (hl s C.2.2.2.2.2.2.2.2.2.1)) (fun x hx => by rw [← hr]; exact hx) hfin hd9 hnn hfit hl9 hd (fun H1 locs1 hP1 hD1 hS1 => kk H1 locs1 ls (zG.set hW hj hP1 hD1) hS1 hL)
end ZR
