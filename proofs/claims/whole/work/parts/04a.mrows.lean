/-! THE REFERENCE'S WORLD: its object at m0, its arrays at ad f; the state s is what they hold -/
abbrev ztys (cI cZ cJ cB : ClassId) : List (ClassId × FieldType) := [(cI, .int), (cZ, .boolean), (cJ, .long), (cB, .object "InjectorTree$Binding")]
def mfs (ad : Nat → Nat) (s : St) : List Value := [.ref (ad 0), iv (s 1 0), .ref (ad 2), .ref (ad 3), iv (s 4 0), .ref (ad 5), .ref (ad 6), .ref (ad 7), .ref (ad 8), .ref (ad 9), .ref (ad 10), .ref (ad 11), .ref (ad 12), .ref (ad 13), .ref (ad 14), iv (s 15 0), .ref (ad 16), .ref (ad 17), .ref (ad 18), .ref (ad 19), .ref (ad 20), .ref (ad 21), .ref (ad 22), iv (s 23 0), .ref (ad 24), .ref (ad 25), .ref (ad 26), iv (s 27 0)]
def marr (f : Nat) : Bool := !(f == 1 || f == 4 || f == 15 || f == 23 || f == 27) && decide (f < 28)
def mlen (f : Nat) : Nat := if f = 0 then 3 else if f = 2 ∨ f = 3 then 4 else if f = 9 ∨ f = 10 ∨ f = 26 then 144 else if f = 16 ∨ f = 17 ∨ f = 18 ∨ f = 19 then 100 else if f = 20 ∨ f = 21 ∨ f = 22 then 400 else 36
def mcell (cI cZ cJ : ClassId) (f : Nat) (s : St) : va_E := if f = 22 ∨ f = 26 then la cJ (mlen f) (s f) else if f = 3 ∨ f = 10 ∨ f = 21 then ia cZ (mlen f) (s f) else ia cI (mlen f) (s f)
def RM (cI cZ cJ : ClassId) (m0 : Nat) (ad : Nat → Nat) (s : St) (σ : zh) : Prop := σ m0 = some (ob 3 (mfs ad s)) ∧ (∀ f, marr f = true → σ (ad f) = some (mcell cI cZ cJ f s)) ∧ ∀ f g, marr f = true → marr g = true → ad f = ad g → f = g
def MA (m0 : Nat) (ad : Nat → Nat) (a : Nat) : Prop := a = m0 ∨ ∃ f, marr f = true ∧ a = ad f
/-- the reference's world, and beside it all as it was in σ0 -/
def mR (cI cZ cJ : ClassId) (m0 : Nat) (ad : Nat → Nat) (σ0 : zh) (s : St) (σ : zh) : Prop := RM cI cZ cJ m0 ad s σ ∧ ∀ a, ¬ MA m0 ad a → σ a = σ0 a
theorem mR.rf {cI cZ cJ : ClassId} {m0 : Nat} {ad : Nat → Nat} {s : St} {σ : zh} (h : RM cI cZ cJ m0 ad s σ) : mR cI cZ cJ m0 ad σ s σ := ⟨h, fun _ _ => rfl⟩
theorem mR.tr {cI cZ cJ : ClassId} {m0 : Nat} {ad : Nat → Nat} {s s' : St} {σ0 σ σ' : zh} (h : mR cI cZ cJ m0 ad σ0 s σ) (k : mR cI cZ cJ m0 ad σ s' σ') : mR cI cZ cJ m0 ad σ0 s' σ' := ⟨k.1, fun a ha => (k.2 a ha).trans (h.2 a ha)⟩
theorem mcell_arr (cI cZ cJ : ClassId) (f : Nat) (s : St) : ∃ x, mcell cI cZ cJ f s = .inl x := by
  unfold mcell
  split
  · exact ⟨_, rfl⟩
  · split <;> exact ⟨_, rfl⟩
theorem mcell_n (cI cZ cJ : ClassId) {f g : Nat} (s : St) (k : Nat) (v : Int) (h : g ≠ f) : mcell cI cZ cJ g (sup s f k v) = mcell cI cZ cJ g s := by
  unfold mcell
  rw [sup_n h]
theorem RM.ne {cI cZ cJ : ClassId} {m0 : Nat} {ad : Nat → Nat} {s : St} {σ : zh} (h : RM cI cZ cJ m0 ad s σ) {f : Nat} (hf : marr f = true) : m0 ≠ ad f := by
  intro e
  have h2 := h.2.1 f hf
  obtain ⟨x, hx⟩ := mcell_arr cI cZ cJ f s
  rw [← e, h.1, hx] at h2
  cases h2
theorem mR.iput {cI cZ cJ : ClassId} {m0 : Nat} {ad : Nat → Nat} {s : St} {σ0 σ : zh} (h : mR cI cZ cJ m0 ad σ0 s σ) {f : Nat} (hf : marr f = true) (k : Nat) (v : Int) : mR cI cZ cJ m0 ad σ0 (sup s f k v) (zput σ (ad f) (mcell cI cZ cJ f (sup s f k v))) := by
  obtain ⟨⟨h1, h2, h3⟩, h4⟩ := h
  refine ⟨⟨?_, fun g hg => ?_, h3⟩, fun a ha => ?_⟩
  · rw [zput_n (RM.ne ⟨h1, h2, h3⟩ hf), h1]
    have e : ∀ c : Nat, marr c = false → sup s f k v c = s c := fun c hc => sup_n (by rintro rfl; rw [hf] at hc; cases hc)
    unfold mfs
    rw [e 1 rfl, e 4 rfl, e 15 rfl, e 23 rfl, e 27 rfl]
  · by_cases e : g = f
    · subst e; rw [zput_s]
    · rw [zput_n (fun z => e (h3 g f hg hf z)), h2 g hg, mcell_n _ _ _ _ _ _ e]
  · rw [zput_n (fun z => ha (Or.inr ⟨f, hf, z⟩))]
    exact h4 a ha
theorem mR.sput {cI cZ cJ : ClassId} {m0 : Nat} {ad : Nat → Nat} {s : St} {σ0 σ : zh} (h : mR cI cZ cJ m0 ad σ0 s σ) {f : Nat} (hf : marr f = false) (v : Int) : mR cI cZ cJ m0 ad σ0 (sup s f 0 v) (zput σ m0 (ob 3 (mfs ad (sup s f 0 v)))) := by
  obtain ⟨⟨h1, h2, h3⟩, h4⟩ := h
  refine ⟨⟨zput_s _ _ _, fun g hg => ?_, h3⟩, fun a ha => ?_⟩
  · rw [zput_n (fun z => RM.ne ⟨h1, h2, h3⟩ hg z.symm), h2 g hg, mcell_n _ _ _ _ _ _ (by rintro rfl; rw [hg] at hf; cases hf)]
  · rw [zput_n (fun z => ha (Or.inl z))]
    exact h4 a ha
section MR
variable {K : zC} {D : va_G} {A : Nat → Prop} {cI cZ cJ cB : ClassId} {F : State → Prop} {rm : Room} {cc : ByteArray} {own nm : String} {Ts : List Cond} {nL : Nat} {ret : Option FieldType} {Q : State → Prop} {cells slots pc : Nat} {σ0 σ : zh} {lv : List (Option Value)} {st : List Value} {m0 : Nat} {ad : Nat → Nat} {s : St}
theorem m_get (C : zCx K D vwCl A (ztys cI cZ cJ cB) F rm cc own nm Ts nL ret) (hM : mR cI cZ cJ m0 ad σ0 s σ) (hin : ∀ w ∈ u_ws "InjectorTreeModel" T_M 28, w ∈ Ts) {index : Nat} {v : Value} (f : Nat) (hf : f < 28) (hl : Cond.fieldLink own index "InjectorTreeModel" (T_M f).2.1 (T_M f).2.2.1 ∈ Ts) (hr : (T_M f).1 = "InjectorTreeModel") (hv : (mfs ad s)[f]? = some v) (hd : decode cc pc = .ok (.getfield index, 3)) (kk : zJ K D vwCl A nL Q cells slots (σ) (pc + 3) lv (v :: st)) : zJ K D vwCl A nL Q cells slots (σ) (pc) lv (.ref m0 :: st) :=
  z_get C hin hM.1.1 rfl f hf hl hr hv hd kk
theorem m_put (C : zCx K D vwCl A (ztys cI cZ cJ cB) F rm cc own nm Ts nL ret) (hM : mR cI cZ cJ m0 ad σ0 s σ) (hin : ∀ w ∈ u_ws "InjectorTreeModel" T_M 28, w ∈ Ts) {index : Nat} {v : Int} {ty : FieldType} (f : Nat) (hf : f < 28) (ha : marr f = false) (hl : Cond.fieldLink own index "InjectorTreeModel" (T_M f).2.1 (T_M f).2.2.1 ∈ Ts) (hr : (T_M f).1 = "InjectorTreeModel") (hfin : (T_M f).2.2.2 = false) (hd9 : parseFieldDescriptor (T_M f).2.2.1 = some ty) (hnn : narrow ty (iv v) = iv v) (hfit : fits ty (iv v) = true) (hset : (mfs ad s).set f (iv v) = mfs ad (sup s f 0 v)) (hd : decode cc pc = .ok (.putfield index, 3)) (kk : ∀ σ' : zh, mR cI cZ cJ m0 ad σ0 (sup s f 0 v) σ' → zJ K D vwCl A nL Q cells slots (σ') (pc + 3) lv (st)) : zJ K D vwCl A nL Q cells slots (σ) (pc) lv (iv v :: .ref m0 :: st) := by
  refine z_put C hin t_M tk_M nm_M hM.1.1 rfl f hf hl hr hfin hd9 hnn hfit hf hd ?_
  rw [hset]
  exact kk _ (hM.sput ha v)
theorem m_iald (C : zCx K D vwCl A (ztys cI cZ cJ cB) F rm cc own nm Ts nL ret) (hM : mR cI cZ cJ m0 ad σ0 s σ) {i : Int} {n : Nat} (f : Nat) (hf : marr f = true) (hc : ∀ s : St, mcell cI cZ cJ f s = ia cI n (s f)) (k : Nat) (hk : i = (k : Int)) (hn : k < n) (hm : n ≤ 2147483647) (hd : decode cc pc = .ok (.iaload, 1)) (kk : zJ K D vwCl A nL Q cells slots (σ) (pc + 1) lv (iv (s f k) :: st)) : zJ K D vwCl A nL Q cells slots (σ) (pc) lv (iv i :: .ref (ad f) :: st) :=
  z_iald C 0 rfl (by rw [hM.1.2.1 f hf, hc]) k hk hn hm hd kk
theorem m_iast (C : zCx K D vwCl A (ztys cI cZ cJ cB) F rm cc own nm Ts nL ret) (hM : mR cI cZ cJ m0 ad σ0 s σ) {i v : Int} {n : Nat} (f : Nat) (hf : marr f = true) (hc : ∀ s : St, mcell cI cZ cJ f s = ia cI n (s f)) (k : Nat) (hk : i = (k : Int)) (hn : k < n) (hm : n ≤ 2147483647) (hd : decode cc pc = .ok (.iastore, 1)) (kk : ∀ σ' : zh, mR cI cZ cJ m0 ad σ0 (sup s f k v) σ' → zJ K D vwCl A nL Q cells slots (σ') (pc + 1) lv (st)) : zJ K D vwCl A nL Q cells slots (σ) (pc) lv (iv v :: iv i :: .ref (ad f) :: st) := by
  refine z_iast C 0 rfl (by rw [hM.1.2.1 f hf, hc]) k hk hn hm hd ?_
  have e := hc (sup s f k v)
  rw [sup_s] at e
  rw [← e]
  exact kk _ (hM.iput hf k v)
theorem m_zald (C : zCx K D vwCl A (ztys cI cZ cJ cB) F rm cc own nm Ts nL ret) (hM : mR cI cZ cJ m0 ad σ0 s σ) {i : Int} {n : Nat} (f : Nat) (hf : marr f = true) (hc : ∀ s : St, mcell cI cZ cJ f s = ia cZ n (s f)) (k : Nat) (hk : i = (k : Int)) (hn : k < n) (hm : n ≤ 2147483647) (hd : decode cc pc = .ok (.baload, 1)) (kk : zJ K D vwCl A nL Q cells slots (σ) (pc + 1) lv (iv (s f k) :: st)) : zJ K D vwCl A nL Q cells slots (σ) (pc) lv (iv i :: .ref (ad f) :: st) :=
  z_zald C 1 rfl (by rw [hM.1.2.1 f hf, hc]) k hk hn hm hd kk
theorem m_zast (C : zCx K D vwCl A (ztys cI cZ cJ cB) F rm cc own nm Ts nL ret) (hM : mR cI cZ cJ m0 ad σ0 s σ) {i v : Int} {n : Nat} (f : Nat) (hf : marr f = true) (hc : ∀ s : St, mcell cI cZ cJ f s = ia cZ n (s f)) (k : Nat) (hk : i = (k : Int)) (hn : k < n) (hm : n ≤ 2147483647) (hv : v = 0 ∨ v = 1) (hd : decode cc pc = .ok (.bastore, 1)) (kk : ∀ σ' : zh, mR cI cZ cJ m0 ad σ0 (sup s f k v) σ' → zJ K D vwCl A nL Q cells slots (σ') (pc + 1) lv (st)) : zJ K D vwCl A nL Q cells slots (σ) (pc) lv (iv v :: iv i :: .ref (ad f) :: st) := by
  refine z_zast C 1 rfl (by rw [hM.1.2.1 f hf, hc]) k hk hn hm hv hd ?_
  have e := hc (sup s f k v)
  rw [sup_s] at e
  rw [← e]
  exact kk _ (hM.iput hf k v)
theorem m_lald (C : zCx K D vwCl A (ztys cI cZ cJ cB) F rm cc own nm Ts nL ret) (hM : mR cI cZ cJ m0 ad σ0 s σ) {i : Int} {n : Nat} (f : Nat) (hf : marr f = true) (hc : ∀ s : St, mcell cI cZ cJ f s = la cJ n (s f)) (k : Nat) (hk : i = (k : Int)) (hn : k < n) (hm : n ≤ 2147483647) (hd : decode cc pc = .ok (.laload, 1)) (kk : zJ K D vwCl A nL Q cells slots (σ) (pc + 1) lv (jv (s f k) :: st)) : zJ K D vwCl A nL Q cells slots (σ) (pc) lv (iv i :: .ref (ad f) :: st) :=
  z_lald C 2 rfl (by rw [hM.1.2.1 f hf, hc]) k hk hn hm hd kk
theorem m_last (C : zCx K D vwCl A (ztys cI cZ cJ cB) F rm cc own nm Ts nL ret) (hM : mR cI cZ cJ m0 ad σ0 s σ) {i v : Int} {n : Nat} (f : Nat) (hf : marr f = true) (hc : ∀ s : St, mcell cI cZ cJ f s = la cJ n (s f)) (k : Nat) (hk : i = (k : Int)) (hn : k < n) (hm : n ≤ 2147483647) (hd : decode cc pc = .ok (.lastore, 1)) (kk : ∀ σ' : zh, mR cI cZ cJ m0 ad σ0 (sup s f k v) σ' → zJ K D vwCl A nL Q cells slots (σ') (pc + 1) lv (st)) : zJ K D vwCl A nL Q cells slots (σ) (pc) lv (jv v :: iv i :: .ref (ad f) :: st) := by
  refine z_last C 2 rfl (by rw [hM.1.2.1 f hf, hc]) k hk hn hm hd ?_
  have e := hc (sup s f k v)
  rw [sup_s] at e
  rw [← e]
  exact kk _ (hM.iput hf k v)
end MR

/-- a room, by how deep the calls go -/
def zroom (k c n : Nat) : Room := { frames := k + 1, cells := c, slots := n, locals := 40 * (k + 1) }
theorem zMet2 {l : Launch} {D : va_G} {cl : List vw_C} {A : Nat → Prop} {tys : List (ClassId × FieldType)} {F : State → Prop} {rm : Room} {cc : ByteArray} {nL : Nat} {ret : Option FieldType} {σ : zh} {y : MethodName} {vals : List Value} {post : Option Value → zh → Prop} (hF : zFok F A) (hy : plainName y.cls = true) (hn : (zents vals).length ≤ nL)
    (body : ∀ K : zC, K.2.1 = l → zCx K D cl A tys F rm cc y.cls y.name zw nL ret → zJ K D cl A nL (zQ K D cl A post rm.cells rm.slots) 0 0 σ 0 (zent vals nL) []) : zM l D cl A tys F y (Cond.code y cc nL ret :: zw) rm vals σ post := by
  refine zMet hF hy rfl hn (fun K hK C => body K hK ?_)
  obtain ⟨p, l', e, R, s, m, args, below, meth, c⟩ := K
  exact ⟨C.1, C.2.1, C.2.2.1, C.2.2.2.1, fun w hw => C.2.2.2.2.1 w (List.mem_cons_of_mem _ hw), C.2.2.2.2.2⟩
theorem pd_X_init : y_X_init.cls ≠ "java/lang/invoke/MethodHandle" ∧ y_X_init.cls ≠ "java/lang/invoke/VarHandle" ∧ (parseMethodDescriptor y_X_init.desc).map (fun d => d.parameters.length) = some 0 := by decide +kernel
theorem pd_N_init : y_N_init.cls ≠ "java/lang/invoke/MethodHandle" ∧ y_N_init.cls ≠ "java/lang/invoke/VarHandle" ∧ (parseMethodDescriptor y_N_init.desc).map (fun d => d.parameters.length) = some 0 := by decide +kernel
theorem pd_X_child : y_X_child.cls ≠ "java/lang/invoke/MethodHandle" ∧ y_X_child.cls ≠ "java/lang/invoke/VarHandle" ∧ (parseMethodDescriptor y_X_child.desc).map (fun d => d.parameters.length) = some 1 := by decide +kernel
theorem pd_X_isInjector : y_X_isInjector.cls ≠ "java/lang/invoke/MethodHandle" ∧ y_X_isInjector.cls ≠ "java/lang/invoke/VarHandle" ∧ (parseMethodDescriptor y_X_isInjector.desc).map (fun d => d.parameters.length) = some 1 := by decide +kernel
theorem pd_X_need : y_X_need.cls ≠ "java/lang/invoke/MethodHandle" ∧ y_X_need.cls ≠ "java/lang/invoke/VarHandle" ∧ (parseMethodDescriptor y_X_need.desc).map (fun d => d.parameters.length) = some 2 := by decide +kernel
theorem pd_X_isKey : y_X_isKey.cls ≠ "java/lang/invoke/MethodHandle" ∧ y_X_isKey.cls ≠ "java/lang/invoke/VarHandle" ∧ (parseMethodDescriptor y_X_isKey.desc).map (fun d => d.parameters.length) = some 1 := by decide +kernel
theorem pd_N_append : y_N_append.cls ≠ "java/lang/invoke/MethodHandle" ∧ y_N_append.cls ≠ "java/lang/invoke/VarHandle" ∧ (parseMethodDescriptor y_N_append.desc).map (fun d => d.parameters.length) = some 2 := by decide +kernel
theorem pd_X_drop : y_X_drop.cls ≠ "java/lang/invoke/MethodHandle" ∧ y_X_drop.cls ≠ "java/lang/invoke/VarHandle" ∧ (parseMethodDescriptor y_X_drop.desc).map (fun d => d.parameters.length) = some 0 := by decide +kernel
theorem pd_X_bindConstant : y_X_bindConstant.cls ≠ "java/lang/invoke/MethodHandle" ∧ y_X_bindConstant.cls ≠ "java/lang/invoke/VarHandle" ∧ (parseMethodDescriptor y_X_bindConstant.desc).map (fun d => d.parameters.length) = some 3 := by decide +kernel
theorem pd_X_isUnbound : y_X_isUnbound.cls ≠ "java/lang/invoke/MethodHandle" ∧ y_X_isUnbound.cls ≠ "java/lang/invoke/VarHandle" ∧ (parseMethodDescriptor y_X_isUnbound.desc).map (fun d => d.parameters.length) = some 2 := by decide +kernel
theorem pd_X_isPair : y_X_isPair.cls ≠ "java/lang/invoke/MethodHandle" ∧ y_X_isPair.cls ≠ "java/lang/invoke/VarHandle" ∧ (parseMethodDescriptor y_X_isPair.desc).map (fun d => d.parameters.length) = some 2 := by decide +kernel
theorem pd_X_pairOf : y_X_pairOf.cls ≠ "java/lang/invoke/MethodHandle" ∧ y_X_pairOf.cls ≠ "java/lang/invoke/VarHandle" ∧ (parseMethodDescriptor y_X_pairOf.desc).map (fun d => d.parameters.length) = some 2 := by decide +kernel
theorem pd_B_init : y_B_init.cls ≠ "java/lang/invoke/MethodHandle" ∧ y_B_init.cls ≠ "java/lang/invoke/VarHandle" ∧ (parseMethodDescriptor y_B_init.desc).map (fun d => d.parameters.length) = some 6 := by decide +kernel
theorem pd_X_bindLink : y_X_bindLink.cls ≠ "java/lang/invoke/MethodHandle" ∧ y_X_bindLink.cls ≠ "java/lang/invoke/VarHandle" ∧ (parseMethodDescriptor y_X_bindLink.desc).map (fun d => d.parameters.length) = some 3 := by decide +kernel
theorem pd_X_bindClass : y_X_bindClass.cls ≠ "java/lang/invoke/MethodHandle" ∧ y_X_bindClass.cls ≠ "java/lang/invoke/VarHandle" ∧ (parseMethodDescriptor y_X_bindClass.desc).map (fun d => d.parameters.length) = some 3 := by decide +kernel
theorem pd_X_unbind : y_X_unbind.cls ≠ "java/lang/invoke/MethodHandle" ∧ y_X_unbind.cls ≠ "java/lang/invoke/VarHandle" ∧ (parseMethodDescriptor y_X_unbind.desc).map (fun d => d.parameters.length) = some 2 := by decide +kernel
theorem pd_X_open : y_X_open.cls ≠ "java/lang/invoke/MethodHandle" ∧ y_X_open.cls ≠ "java/lang/invoke/VarHandle" ∧ (parseMethodDescriptor y_X_open.desc).map (fun d => d.parameters.length) = some 0 := by decide +kernel
theorem pd_X_close : y_X_close.cls ≠ "java/lang/invoke/MethodHandle" ∧ y_X_close.cls ≠ "java/lang/invoke/VarHandle" ∧ (parseMethodDescriptor y_X_close.desc).map (fun d => d.parameters.length) = some 0 := by decide +kernel
theorem pd_X_countKept : y_X_countKept.cls ≠ "java/lang/invoke/MethodHandle" ∧ y_X_countKept.cls ≠ "java/lang/invoke/VarHandle" ∧ (parseMethodDescriptor y_X_countKept.desc).map (fun d => d.parameters.length) = some 1 := by decide +kernel
theorem pd_X_get : y_X_get.cls ≠ "java/lang/invoke/MethodHandle" ∧ y_X_get.cls ≠ "java/lang/invoke/VarHandle" ∧ (parseMethodDescriptor y_X_get.desc).map (fun d => d.parameters.length) = some 2 := by decide +kernel
theorem pd_X_obtainFromOutside : y_X_obtainFromOutside.cls ≠ "java/lang/invoke/MethodHandle" ∧ y_X_obtainFromOutside.cls ≠ "java/lang/invoke/VarHandle" ∧ (parseMethodDescriptor y_X_obtainFromOutside.desc).map (fun d => d.parameters.length) = some 2 := by decide +kernel
theorem pd_X_obtain : y_X_obtain.cls ≠ "java/lang/invoke/MethodHandle" ∧ y_X_obtain.cls ≠ "java/lang/invoke/VarHandle" ∧ (parseMethodDescriptor y_X_obtain.desc).map (fun d => d.parameters.length) = some 3 := by decide +kernel
theorem pd_X_seenFrom : y_X_seenFrom.cls ≠ "java/lang/invoke/MethodHandle" ∧ y_X_seenFrom.cls ≠ "java/lang/invoke/VarHandle" ∧ (parseMethodDescriptor y_X_seenFrom.desc).map (fun d => d.parameters.length) = some 2 := by decide +kernel
theorem pd_X_obtainNew : y_X_obtainNew.cls ≠ "java/lang/invoke/MethodHandle" ∧ y_X_obtainNew.cls ≠ "java/lang/invoke/VarHandle" ∧ (parseMethodDescriptor y_X_obtainNew.desc).map (fun d => d.parameters.length) = some 2 := by decide +kernel
theorem pd_X_handleOf : y_X_handleOf.cls ≠ "java/lang/invoke/MethodHandle" ∧ y_X_handleOf.cls ≠ "java/lang/invoke/VarHandle" ∧ (parseMethodDescriptor y_X_handleOf.desc).map (fun d => d.parameters.length) = some 2 := by decide +kernel
theorem pd_X_isError : y_X_isError.cls ≠ "java/lang/invoke/MethodHandle" ∧ y_X_isError.cls ≠ "java/lang/invoke/VarHandle" ∧ (parseMethodDescriptor y_X_isError.desc).map (fun d => d.parameters.length) = some 1 := by decide +kernel
theorem pd_X_makeInstance : y_X_makeInstance.cls ≠ "java/lang/invoke/MethodHandle" ∧ y_X_makeInstance.cls ≠ "java/lang/invoke/VarHandle" ∧ (parseMethodDescriptor y_X_makeInstance.desc).map (fun d => d.parameters.length) = some 2 := by decide +kernel
theorem pd_X_unmakeFrom : y_X_unmakeFrom.cls ≠ "java/lang/invoke/MethodHandle" ∧ y_X_unmakeFrom.cls ≠ "java/lang/invoke/VarHandle" ∧ (parseMethodDescriptor y_X_unmakeFrom.desc).map (fun d => d.parameters.length) = some 1 := by decide +kernel
theorem pd_X_ask : y_X_ask.cls ≠ "java/lang/invoke/MethodHandle" ∧ y_X_ask.cls ≠ "java/lang/invoke/VarHandle" ∧ (parseMethodDescriptor y_X_ask.desc).map (fun d => d.parameters.length) = some 2 := by decide +kernel
theorem pd_X_makerOf : y_X_makerOf.cls ≠ "java/lang/invoke/MethodHandle" ∧ y_X_makerOf.cls ≠ "java/lang/invoke/VarHandle" ∧ (parseMethodDescriptor y_X_makerOf.desc).map (fun d => d.parameters.length) = some 1 := by decide +kernel
theorem pd_X_hasNeed : y_X_hasNeed.cls ≠ "java/lang/invoke/MethodHandle" ∧ y_X_hasNeed.cls ≠ "java/lang/invoke/VarHandle" ∧ (parseMethodDescriptor y_X_hasNeed.desc).map (fun d => d.parameters.length) = some 2 := by decide +kernel
theorem pd_X_held : y_X_held.cls ≠ "java/lang/invoke/MethodHandle" ∧ y_X_held.cls ≠ "java/lang/invoke/VarHandle" ∧ (parseMethodDescriptor y_X_held.desc).map (fun d => d.parameters.length) = some 2 := by decide +kernel
theorem pd_X_about : y_X_about.cls ≠ "java/lang/invoke/MethodHandle" ∧ y_X_about.cls ≠ "java/lang/invoke/VarHandle" ∧ (parseMethodDescriptor y_X_about.desc).map (fun d => d.parameters.length) = some 2 := by decide +kernel
theorem pd_X_broken : y_X_broken.cls ≠ "java/lang/invoke/MethodHandle" ∧ y_X_broken.cls ≠ "java/lang/invoke/VarHandle" ∧ (parseMethodDescriptor y_X_broken.desc).map (fun d => d.parameters.length) = some 1 := by decide +kernel
theorem pd_X_wouldFail : y_X_wouldFail.cls ≠ "java/lang/invoke/MethodHandle" ∧ y_X_wouldFail.cls ≠ "java/lang/invoke/VarHandle" ∧ (parseMethodDescriptor y_X_wouldFail.desc).map (fun d => d.parameters.length) = some 2 := by decide +kernel
theorem pd_X_reach : y_X_reach.cls ≠ "java/lang/invoke/MethodHandle" ∧ y_X_reach.cls ≠ "java/lang/invoke/VarHandle" ∧ (parseMethodDescriptor y_X_reach.desc).map (fun d => d.parameters.length) = some 2 := by decide +kernel
theorem pd_J_numberOfTrailingZeros : y_J_numberOfTrailingZeros.cls ≠ "java/lang/invoke/MethodHandle" ∧ y_J_numberOfTrailingZeros.cls ≠ "java/lang/invoke/VarHandle" ∧ (parseMethodDescriptor y_J_numberOfTrailingZeros.desc).map (fun d => d.parameters.length) = some 1 := by decide +kernel
theorem pd_I_numberOfTrailingZeros : y_I_numberOfTrailingZeros.cls ≠ "java/lang/invoke/MethodHandle" ∧ y_I_numberOfTrailingZeros.cls ≠ "java/lang/invoke/VarHandle" ∧ (parseMethodDescriptor y_I_numberOfTrailingZeros.desc).map (fun d => d.parameters.length) = some 1 := by decide +kernel
theorem pd_X_nextPairs : y_X_nextPairs.cls ≠ "java/lang/invoke/MethodHandle" ∧ y_X_nextPairs.cls ≠ "java/lang/invoke/VarHandle" ∧ (parseMethodDescriptor y_X_nextPairs.desc).map (fun d => d.parameters.length) = some 2 := by decide +kernel
theorem pd_X_keysOf : y_X_keysOf.cls ≠ "java/lang/invoke/MethodHandle" ∧ y_X_keysOf.cls ≠ "java/lang/invoke/VarHandle" ∧ (parseMethodDescriptor y_X_keysOf.desc).map (fun d => d.parameters.length) = some 1 := by decide +kernel
theorem pd_X_home : y_X_home.cls ≠ "java/lang/invoke/MethodHandle" ∧ y_X_home.cls ≠ "java/lang/invoke/VarHandle" ∧ (parseMethodDescriptor y_X_home.desc).map (fun d => d.parameters.length) = some 2 := by decide +kernel
theorem pd_X_count : y_X_count.cls ≠ "java/lang/invoke/MethodHandle" ∧ y_X_count.cls ≠ "java/lang/invoke/VarHandle" ∧ (parseMethodDescriptor y_X_count.desc).map (fun d => d.parameters.length) = some 1 := by decide +kernel
theorem pd_X_countBindings : y_X_countBindings.cls ≠ "java/lang/invoke/MethodHandle" ∧ y_X_countBindings.cls ≠ "java/lang/invoke/VarHandle" ∧ (parseMethodDescriptor y_X_countBindings.desc).map (fun d => d.parameters.length) = some 0 := by decide +kernel
theorem pd_M_init : y_M_init.cls ≠ "java/lang/invoke/MethodHandle" ∧ y_M_init.cls ≠ "java/lang/invoke/VarHandle" ∧ (parseMethodDescriptor y_M_init.desc).map (fun d => d.parameters.length) = some 0 := by decide +kernel
theorem pd_M_child : y_M_child.cls ≠ "java/lang/invoke/MethodHandle" ∧ y_M_child.cls ≠ "java/lang/invoke/VarHandle" ∧ (parseMethodDescriptor y_M_child.desc).map (fun d => d.parameters.length) = some 1 := by decide +kernel
theorem pd_M_need : y_M_need.cls ≠ "java/lang/invoke/MethodHandle" ∧ y_M_need.cls ≠ "java/lang/invoke/VarHandle" ∧ (parseMethodDescriptor y_M_need.desc).map (fun d => d.parameters.length) = some 2 := by decide +kernel
theorem pd_M_drop : y_M_drop.cls ≠ "java/lang/invoke/MethodHandle" ∧ y_M_drop.cls ≠ "java/lang/invoke/VarHandle" ∧ (parseMethodDescriptor y_M_drop.desc).map (fun d => d.parameters.length) = some 0 := by decide +kernel
theorem pd_M_bindConstant : y_M_bindConstant.cls ≠ "java/lang/invoke/MethodHandle" ∧ y_M_bindConstant.cls ≠ "java/lang/invoke/VarHandle" ∧ (parseMethodDescriptor y_M_bindConstant.desc).map (fun d => d.parameters.length) = some 3 := by decide +kernel
theorem pd_M_bind : y_M_bind.cls ≠ "java/lang/invoke/MethodHandle" ∧ y_M_bind.cls ≠ "java/lang/invoke/VarHandle" ∧ (parseMethodDescriptor y_M_bind.desc).map (fun d => d.parameters.length) = some 4 := by decide +kernel
theorem pd_M_noPair : y_M_noPair.cls ≠ "java/lang/invoke/MethodHandle" ∧ y_M_noPair.cls ≠ "java/lang/invoke/VarHandle" ∧ (parseMethodDescriptor y_M_noPair.desc).map (fun d => d.parameters.length) = some 2 := by decide +kernel
theorem pd_M_bindLink : y_M_bindLink.cls ≠ "java/lang/invoke/MethodHandle" ∧ y_M_bindLink.cls ≠ "java/lang/invoke/VarHandle" ∧ (parseMethodDescriptor y_M_bindLink.desc).map (fun d => d.parameters.length) = some 3 := by decide +kernel
theorem pd_M_bindClass : y_M_bindClass.cls ≠ "java/lang/invoke/MethodHandle" ∧ y_M_bindClass.cls ≠ "java/lang/invoke/VarHandle" ∧ (parseMethodDescriptor y_M_bindClass.desc).map (fun d => d.parameters.length) = some 3 := by decide +kernel
theorem pd_M_unbind : y_M_unbind.cls ≠ "java/lang/invoke/MethodHandle" ∧ y_M_unbind.cls ≠ "java/lang/invoke/VarHandle" ∧ (parseMethodDescriptor y_M_unbind.desc).map (fun d => d.parameters.length) = some 2 := by decide +kernel
theorem pd_M_open : y_M_open.cls ≠ "java/lang/invoke/MethodHandle" ∧ y_M_open.cls ≠ "java/lang/invoke/VarHandle" ∧ (parseMethodDescriptor y_M_open.desc).map (fun d => d.parameters.length) = some 0 := by decide +kernel
theorem pd_M_close : y_M_close.cls ≠ "java/lang/invoke/MethodHandle" ∧ y_M_close.cls ≠ "java/lang/invoke/VarHandle" ∧ (parseMethodDescriptor y_M_close.desc).map (fun d => d.parameters.length) = some 0 := by decide +kernel
theorem pd_M_filled : y_M_filled.cls ≠ "java/lang/invoke/MethodHandle" ∧ y_M_filled.cls ≠ "java/lang/invoke/VarHandle" ∧ (parseMethodDescriptor y_M_filled.desc).map (fun d => d.parameters.length) = some 1 := by decide +kernel
theorem pd_M_get : y_M_get.cls ≠ "java/lang/invoke/MethodHandle" ∧ y_M_get.cls ≠ "java/lang/invoke/VarHandle" ∧ (parseMethodDescriptor y_M_get.desc).map (fun d => d.parameters.length) = some 2 := by decide +kernel
theorem pd_M_keepCopies : y_M_keepCopies.cls ≠ "java/lang/invoke/MethodHandle" ∧ y_M_keepCopies.cls ≠ "java/lang/invoke/VarHandle" ∧ (parseMethodDescriptor y_M_keepCopies.desc).map (fun d => d.parameters.length) = some 0 := by decide +kernel
theorem pd_M_gets : y_M_gets.cls ≠ "java/lang/invoke/MethodHandle" ∧ y_M_gets.cls ≠ "java/lang/invoke/VarHandle" ∧ (parseMethodDescriptor y_M_gets.desc).map (fun d => d.parameters.length) = some 2 := by decide +kernel
theorem pd_M_begin : y_M_begin.cls ≠ "java/lang/invoke/MethodHandle" ∧ y_M_begin.cls ≠ "java/lang/invoke/VarHandle" ∧ (parseMethodDescriptor y_M_begin.desc).map (fun d => d.parameters.length) = some 2 := by decide +kernel
theorem pd_M_seen : y_M_seen.cls ≠ "java/lang/invoke/MethodHandle" ∧ y_M_seen.cls ≠ "java/lang/invoke/VarHandle" ∧ (parseMethodDescriptor y_M_seen.desc).map (fun d => d.parameters.length) = some 2 := by decide +kernel
theorem pd_M_working : y_M_working.cls ≠ "java/lang/invoke/MethodHandle" ∧ y_M_working.cls ≠ "java/lang/invoke/VarHandle" ∧ (parseMethodDescriptor y_M_working.desc).map (fun d => d.parameters.length) = some 1 := by decide +kernel
theorem pd_M_work : y_M_work.cls ≠ "java/lang/invoke/MethodHandle" ∧ y_M_work.cls ≠ "java/lang/invoke/VarHandle" ∧ (parseMethodDescriptor y_M_work.desc).map (fun d => d.parameters.length) = some 0 := by decide +kernel
theorem pd_M_make : y_M_make.cls ≠ "java/lang/invoke/MethodHandle" ∧ y_M_make.cls ≠ "java/lang/invoke/VarHandle" ∧ (parseMethodDescriptor y_M_make.desc).map (fun d => d.parameters.length) = some 2 := by decide +kernel
theorem pd_M_took : y_M_took.cls ≠ "java/lang/invoke/MethodHandle" ∧ y_M_took.cls ≠ "java/lang/invoke/VarHandle" ∧ (parseMethodDescriptor y_M_took.desc).map (fun d => d.parameters.length) = some 2 := by decide +kernel
theorem pd_M_takeBack : y_M_takeBack.cls ≠ "java/lang/invoke/MethodHandle" ∧ y_M_takeBack.cls ≠ "java/lang/invoke/VarHandle" ∧ (parseMethodDescriptor y_M_takeBack.desc).map (fun d => d.parameters.length) = some 1 := by decide +kernel
theorem pd_M_ask : y_M_ask.cls ≠ "java/lang/invoke/MethodHandle" ∧ y_M_ask.cls ≠ "java/lang/invoke/VarHandle" ∧ (parseMethodDescriptor y_M_ask.desc).map (fun d => d.parameters.length) = some 2 := by decide +kernel
theorem pd_M_noNeed : y_M_noNeed.cls ≠ "java/lang/invoke/MethodHandle" ∧ y_M_noNeed.cls ≠ "java/lang/invoke/VarHandle" ∧ (parseMethodDescriptor y_M_noNeed.desc).map (fun d => d.parameters.length) = some 2 := by decide +kernel
theorem pd_M_held : y_M_held.cls ≠ "java/lang/invoke/MethodHandle" ∧ y_M_held.cls ≠ "java/lang/invoke/VarHandle" ∧ (parseMethodDescriptor y_M_held.desc).map (fun d => d.parameters.length) = some 2 := by decide +kernel
theorem pd_M_about : y_M_about.cls ≠ "java/lang/invoke/MethodHandle" ∧ y_M_about.cls ≠ "java/lang/invoke/VarHandle" ∧ (parseMethodDescriptor y_M_about.desc).map (fun d => d.parameters.length) = some 2 := by decide +kernel
theorem pd_M_broken : y_M_broken.cls ≠ "java/lang/invoke/MethodHandle" ∧ y_M_broken.cls ≠ "java/lang/invoke/VarHandle" ∧ (parseMethodDescriptor y_M_broken.desc).map (fun d => d.parameters.length) = some 1 := by decide +kernel
theorem pd_M_reach : y_M_reach.cls ≠ "java/lang/invoke/MethodHandle" ∧ y_M_reach.cls ≠ "java/lang/invoke/VarHandle" ∧ (parseMethodDescriptor y_M_reach.desc).map (fun d => d.parameters.length) = some 2 := by decide +kernel
theorem pd_M_home : y_M_home.cls ≠ "java/lang/invoke/MethodHandle" ∧ y_M_home.cls ≠ "java/lang/invoke/VarHandle" ∧ (parseMethodDescriptor y_M_home.desc).map (fun d => d.parameters.length) = some 2 := by decide +kernel
theorem pd_M_count : y_M_count.cls ≠ "java/lang/invoke/MethodHandle" ∧ y_M_count.cls ≠ "java/lang/invoke/VarHandle" ∧ (parseMethodDescriptor y_M_count.desc).map (fun d => d.parameters.length) = some 1 := by decide +kernel
