/-! THE CLASS'S WORLD. X: its addresses (0 the object, 1 parents, 2 bindings, 3 makers, 4 values, 5 gathered, 6 the buffer, 7 its keys, 8 its lazy, 9 .. 11 the constants of Kind); O: what is its own; bnd, mkr: what the arrays of bindings and makers hold; g: values, gathered, the buffer's keys and lazy; s: the state; kp, wk: kept and inWork of each pair's binding -/
def NDk (cI cZ : ClassId) (O : Nat → Prop) (σ : zh) (nd ka la : Nat) (sz : Int) (kf zf : Nat → Int) : Prop := (O nd ∧ O ka ∧ O la) ∧ σ nd = some (ob 1 [.ref ka, .ref la, iv sz]) ∧ σ ka = some (ia cI 4 kf) ∧ σ la = some (ia cZ 4 zf) ∧ (0 ≤ sz ∧ sz ≤ 4) ∧ (∀ j, 0 ≤ kf j ∧ kf j ≤ 11) ∧ ∀ j, zf j = 0 ∨ zf j = 1
def NBd (X : Nat → Nat) (nd ka la : Nat) : Prop := nd ≠ X 6 ∧ ka ≠ X 7 ∧ ka ≠ X 8 ∧ la ≠ X 7 ∧ la ≠ X 8
def BB (cI cZ : ClassId) (X : Nat → Nat) (O : Nat → Prop) (σ : zh) (a kd : Nat) (inj key con sc kept iw sz : Int) (kf zf : Nat → Int) : Prop := O a ∧ ∃ nd ka la, σ a = some (ob 0 [.ref kd, iv inj, iv key, iv con, iv sc, .ref nd, iv kept, iv iw]) ∧ NDk cI cZ O σ nd ka la sz kf zf ∧ NBd X nd ka la
def BK (X : Nat → Nat) (s : St) (p kd : Nat) (con sc sz : Int) (kf zf : Nat → Int) : Prop := (s 5 p = 1 ∧ kd = X 9 ∧ con = s 6 p ∧ sc = 0 ∧ sz = 0) ∨ (s 5 p = 2 ∧ kd = X 10 ∧ sc = 0 ∧ sz = 1 ∧ kf 0 = s 6 p) ∨ (s 5 p = 3 ∧ kd = X 11 ∧ sc = s 7 p ∧ sz = s 8 p ∧ ∀ j : Nat, (j : Int) < sz → kf j = s 9 (4 * p + j) ∧ zf j = s 10 (4 * p + j))
def xB (cI cZ : ClassId) (X : Nat → Nat) (O : Nat → Prop) (bnd : Nat → Option Nat) (s : St) (kp wk : Nat → Int) (σ : zh) (p : Nat) : Prop := (bnd p = none ∧ s 5 p = 0) ∨ ∃ (a kd : Nat) (con sc sz : Int) (kf zf : Nat → Int), bnd p = some a ∧ BB cI cZ X O σ a kd ((p / 12 : Nat) : Int) ((p % 12 : Nat) : Int) con sc (kp p) (wk p) sz kf zf ∧ BK X s p kd con sc sz kf zf
def xMk (cI cZ : ClassId) (X : Nat → Nat) (O : Nat → Prop) (mkr : Nat → Option Nat) (s : St) (σ : zh) (i : Nat) : Prop := ∃ (a kd : Nat) (con kept iw : Int) (kf zf : Nat → Int), mkr i = some a ∧ BB cI cZ X O σ a kd (s 17 i) (s 16 i) con (s 18 i) kept iw (s 19 i) kf zf ∧ ∀ j : Nat, (j : Int) < s 19 i → kf j = s 20 (4 * i + j) ∧ zf j = s 21 (4 * i + j)
def xfs (X : Nat → Nat) (s : St) : List Value := [.ref (X 1), .ref (X 2), .ref (X 3), .ref (X 4), .ref (X 5), .ref (X 6), iv (s 1 0), iv (s 23 0), iv (s 15 0)]
def xG (cI cZ cJ cB : ClassId) (X : Nat → Nat) (O : Nat → Prop) (bnd mkr : Nat → Option Nat) (g : Nat → Nat → Int) (s : St) (kp wk : Nat → Int) (σ : zh) : Prop :=
  (O (X 0) ∧ O (X 1) ∧ O (X 2) ∧ O (X 3) ∧ O (X 4) ∧ O (X 5)) ∧ σ (X 0) = some (ob 2 (xfs X s)) ∧ σ (X 1) = some (ia cI 3 (s 0)) ∧ σ (X 2) = some (ra cB 36 bnd) ∧ σ (X 3) = some (ra cB 100 mkr) ∧ σ (X 4) = some (la cJ 400 (g 0)) ∧ σ (X 5) = some (la cJ 144 (g 1)) ∧
  (NDk cI cZ O σ (X 6) (X 7) (X 8) (s 4 0) (g 2) (g 3) ∧ X 7 ≠ X 8) ∧ (∀ j : Nat, (j : Int) < s 4 0 → g 2 j = s 2 j ∧ g 3 j = s 3 j) ∧
  (∀ p, p < 36 → xB cI cZ X O bnd s kp wk σ p) ∧ (∀ i : Nat, (i : Int) < s 23 0 → xMk cI cZ X O mkr s σ i) ∧ (∀ i j : Nat, (i : Int) < s 23 0 → (j : Int) < s 19 i → g 0 (4 * i + j) = s 22 (4 * i + j)) ∧ (∀ p, wk p = 0 ∨ wk p = 1) ∧ (∀ p, -1 ≤ kp p ∧ kp p ≤ 200) ∧ X 9 ≠ X 10 ∧ X 9 ≠ X 11 ∧ X 10 ≠ X 11
/-- the class's world as a call finds it and leaves it -/
def xR (cI cZ cJ cB : ClassId) (X : Nat → Nat) (O : Nat → Prop) (s : St) (σ : zh) : Prop := ∃ (bnd mkr : Nat → Option Nat) (g : Nat → Nat → Int), xG cI cZ cJ cB X O bnd mkr g s (fun p => kpt s p - 1) (fun _ => 0) σ
/-- all that is not the class's own is as it was -/
def xfr (O O' : Nat → Prop) (σ σ' : zh) : Prop := ∀ a e, σ a = some e → ¬ O a → σ' a = some e ∧ ¬ O' a
theorem xfr.rf {O : Nat → Prop} {σ : zh} : xfr O O σ σ := fun _ _ h1 h2 => ⟨h1, h2⟩
theorem xfr.tr {O O' O'' : Nat → Prop} {σ σ' σ'' : zh} (h : xfr O O' σ σ') (k : xfr O' O'' σ' σ'') : xfr O O'' σ σ'' := fun a e h1 h2 => k a e (h a e h1 h2).1 (h a e h1 h2).2
theorem xfr.put {O : Nat → Prop} {σ : zh} {a : Nat} {e : va_E} (ha : O a) : xfr O O σ (zput σ a e) := fun b x h1 h2 => ⟨(zput_n (fun z : b = a => h2 (by rw [z]; exact ha))).trans h1, h2⟩
/-! a write keeps the records that lie elsewhere -/
theorem NDk.keep {cI cZ : ClassId} {O : Nat → Prop} {σ : zh} {nd ka la : Nat} {sz : Int} {kf zf : Nat → Int} {b : Nat} {e : va_E} (h : NDk cI cZ O σ nd ka la sz kf zf) (h1 : nd ≠ b) (h2 : ka ≠ b) (h3 : la ≠ b) : NDk cI cZ O (zput σ b e) nd ka la sz kf zf := by
  obtain ⟨k1, k2, k3, k4, k5⟩ := h
  exact ⟨k1, by rw [zput_n h1]; exact k2, by rw [zput_n h2]; exact k3, by rw [zput_n h3]; exact k4, k5⟩
/-- the cells that hold no part of a binding or of needs -/
def xoff (cI cZ : ClassId) (e : va_E) : Prop := (∀ fs, e ≠ ob 0 fs) ∧ (∀ fs, e ≠ ob 1 fs) ∧ (∀ f, e ≠ ia cI 4 f) ∧ ∀ f, e ≠ ia cZ 4 f
theorem NDk.off {cI cZ : ClassId} {O : Nat → Prop} {σ : zh} {nd ka la : Nat} {sz : Int} {kf zf : Nat → Int} {b : Nat} {e e0 : va_E} (h : NDk cI cZ O σ nd ka la sz kf zf) (hb : σ b = some e0) (ho : xoff cI cZ e0) : NDk cI cZ O (zput σ b e) nd ka la sz kf zf := by
  refine h.keep (fun z => ?_) (fun z => ?_) (fun z => ?_)
  · subst z; exact ho.2.1 _ (Option.some.inj (hb.symm.trans h.2.1))
  · subst z; exact ho.2.2.1 _ (Option.some.inj (hb.symm.trans h.2.2.1))
  · subst z; exact ho.2.2.2 _ (Option.some.inj (hb.symm.trans h.2.2.2.1))
theorem BB.off {cI cZ : ClassId} {X : Nat → Nat} {O : Nat → Prop} {σ : zh} {a kd : Nat} {inj key con sc kept iw sz : Int} {kf zf : Nat → Int} {b : Nat} {e e0 : va_E} (h : BB cI cZ X O σ a kd inj key con sc kept iw sz kf zf) (hb : σ b = some e0) (ho : xoff cI cZ e0) : BB cI cZ X O (zput σ b e) a kd inj key con sc kept iw sz kf zf := by
  obtain ⟨h1, nd, ka, la, h2, h3, h4⟩ := h
  refine ⟨h1, nd, ka, la, ?_, h3.off hb ho, h4⟩
  rw [zput_n (fun z => ?_)]
  · exact h2
  · subst z; rw [hb] at h2; exact ho.1 _ (Option.some.inj h2)
theorem xB.off {cI cZ : ClassId} {X : Nat → Nat} {O : Nat → Prop} {bnd : Nat → Option Nat} {s : St} {kp wk : Nat → Int} {σ : zh} {p b : Nat} {e e0 : va_E} (h : xB cI cZ X O bnd s kp wk σ p) (hb : σ b = some e0) (ho : xoff cI cZ e0) : xB cI cZ X O bnd s kp wk (zput σ b e) p := by
  rcases h with h | ⟨a, kd, con, sc, sz, kf, zf, h1, h2, h3⟩
  · exact Or.inl h
  · exact Or.inr ⟨a, kd, con, sc, sz, kf, zf, h1, h2.off hb ho, h3⟩
theorem xMk.off {cI cZ : ClassId} {X : Nat → Nat} {O : Nat → Prop} {mkr : Nat → Option Nat} {s : St} {σ : zh} {i b : Nat} {e e0 : va_E} (h : xMk cI cZ X O mkr s σ i) (hb : σ b = some e0) (ho : xoff cI cZ e0) : xMk cI cZ X O mkr s (zput σ b e) i := by
  obtain ⟨a, kd, con, kept, iw, kf, zf, h1, h2, h3⟩ := h
  exact ⟨a, kd, con, kept, iw, kf, zf, h1, h2.off hb ho, h3⟩
theorem xoff_o2 {cI cZ : ClassId} {fs : List Value} : xoff cI cZ (ob 2 fs) := ⟨fun _ h => (by cases h), fun _ h => (by cases h), fun _ h => (by cases h), fun _ h => (by cases h)⟩
theorem xoff_la {cI cZ c : ClassId} {n : Nat} {f : Nat → Int} : xoff cI cZ (la c n f) := ⟨fun _ h => (by cases h), fun _ h => (by cases h), fun _ h => (by cases h), fun _ h => (by cases h)⟩
theorem xoff_ra {cI cZ c : ClassId} {n : Nat} {f : Nat → Option Nat} : xoff cI cZ (ra c n f) := ⟨fun _ h => (by cases h), fun _ h => (by cases h), fun _ h => (by cases h), fun _ h => (by cases h)⟩
theorem xoff_i3 {cI cZ c : ClassId} {f : Nat → Int} : xoff cI cZ (ia c 3 f) := ⟨fun _ h => (by cases h), fun _ h => (by cases h), fun _ h => (by cases h), fun _ h => (by cases h)⟩
/-! what stays of the tables: the nest's links, the constants of Kind -/
def nestW : List Cond := [.fieldLinkNest "InjectorTree" 118 "InjectorTree$Needs" "keys" "[I" "InjectorTree", .fieldLinkNest "InjectorTree" 111 "InjectorTree$Needs" "lazy" "[Z" "InjectorTree", .fieldLinkNest "InjectorTree" 47 "InjectorTree$Needs" "size" "I" "InjectorTree", .fieldLinkNest "InjectorTree" 164 "InjectorTree$Binding" "kind" "LInjectorTree$Kind;" "InjectorTree", .fieldLinkNest "InjectorTree" 115 "InjectorTree$Binding" "injector" "I" "InjectorTree", .fieldLinkNest "InjectorTree" 121 "InjectorTree$Binding" "key" "I" "InjectorTree", .fieldLinkNest "InjectorTree" 169 "InjectorTree$Binding" "constant" "I" "InjectorTree", .fieldLinkNest "InjectorTree" 88 "InjectorTree$Binding" "scope" "I" "InjectorTree", .fieldLinkNest "InjectorTree" 108 "InjectorTree$Binding" "needs" "LInjectorTree$Needs;" "InjectorTree", .fieldLinkNest "InjectorTree" 91 "InjectorTree$Binding" "kept" "I" "InjectorTree", .fieldLinkNest "InjectorTree" 172 "InjectorTree$Binding" "inWork" "Z" "InjectorTree", .methodLinkNest "InjectorTree" 35 y_N_init "InjectorTree", .methodLinkNest "InjectorTree" 50 y_N_append "InjectorTree", .methodLinkNest "InjectorTree" 68 y_B_init "InjectorTree"]
def zF (A : Nat → Prop) (X : Nat → Nat) (U : State) : Prop := (∀ w ∈ nestW, va_Nw w U) ∧ va_AO "InjectorTree$Binding" U ∧ va_Z "InjectorTree$Kind" "CONSTANT" "LInjectorTree$Kind;" (.ref (X 9)) A U U.heap ∧ va_Z "InjectorTree$Kind" "LINK" "LInjectorTree$Kind;" (.ref (X 10)) A U U.heap ∧ va_Z "InjectorTree$Kind" "CLASS" "LInjectorTree$Kind;" (.ref (X 11)) A U U.heap
theorem zF_ok (A : Nat → Prop) (X : Nat → Nat) : zFok (zF A X) A := by
  refine ⟨fun U g mk a h => ?_, fun s U hW h1 h2 h => ?_⟩
  · obtain ⟨k1, k2, k3, k4, k5⟩ := h
    refine ⟨fun w hw => ?_, va_AO.moved (u := U) (U := U.calling g mk a) (Vm.Alike.refl U.vm) k2, va_Z.moved (u := U) (U := U.calling g mk a) (Vm.Alike.refl U.vm) k3, va_Z.moved (u := U) (U := U.calling g mk a) (Vm.Alike.refl U.vm) k4, va_Z.moved (u := U) (U := U.calling g mk a) (Vm.Alike.refl U.vm) k5⟩
    have hon : w.onTables = true := (show ∀ w ∈ nestW, w.onTables = true by decide) w hw
    exact va_Nw.same hon (u := U) (U := U.calling g mk a) rfl (k1 w hw)
  · obtain ⟨k1, k2, k3, k4, k5⟩ := h
    refine ⟨fun w hw => ?_, va_AO.moved hW.alike k2, (k3.kept (fun a ha hA => h2 a ha hA)).moved hW.alike, (k4.kept (fun a ha hA => h2 a ha hA)).moved hW.alike, (k5.kept (fun a ha hA => h2 a ha hA)).moved hW.alike⟩
    have kw := k1 w hw
    unfold nestW at hw
    simp only [List.mem_cons, List.not_mem_nil, or_false] at hw
    rcases hw with rfl | rfl | rfl | rfl | rfl | rfl | rfl | rfl | rfl | rfl | rfl | rfl | rfl | rfl
    all_goals first | exact va_Nw.warmF hW kw | exact va_Nw.warmM hW kw
theorem nl_118 {A : Nat → Prop} {X : Nat → Nat} : ∀ s : State, zF A X s → va_Nw (.fieldLinkNest "InjectorTree" 118 "InjectorTree$Needs" "keys" "[I" "InjectorTree") s := fun _ h => h.1 _ (List.mem_of_getElem? (i := 0) rfl)
theorem nl_111 {A : Nat → Prop} {X : Nat → Nat} : ∀ s : State, zF A X s → va_Nw (.fieldLinkNest "InjectorTree" 111 "InjectorTree$Needs" "lazy" "[Z" "InjectorTree") s := fun _ h => h.1 _ (List.mem_of_getElem? (i := 1) rfl)
theorem nl_47 {A : Nat → Prop} {X : Nat → Nat} : ∀ s : State, zF A X s → va_Nw (.fieldLinkNest "InjectorTree" 47 "InjectorTree$Needs" "size" "I" "InjectorTree") s := fun _ h => h.1 _ (List.mem_of_getElem? (i := 2) rfl)
theorem nl_164 {A : Nat → Prop} {X : Nat → Nat} : ∀ s : State, zF A X s → va_Nw (.fieldLinkNest "InjectorTree" 164 "InjectorTree$Binding" "kind" "LInjectorTree$Kind;" "InjectorTree") s := fun _ h => h.1 _ (List.mem_of_getElem? (i := 3) rfl)
theorem nl_115 {A : Nat → Prop} {X : Nat → Nat} : ∀ s : State, zF A X s → va_Nw (.fieldLinkNest "InjectorTree" 115 "InjectorTree$Binding" "injector" "I" "InjectorTree") s := fun _ h => h.1 _ (List.mem_of_getElem? (i := 4) rfl)
theorem nl_121 {A : Nat → Prop} {X : Nat → Nat} : ∀ s : State, zF A X s → va_Nw (.fieldLinkNest "InjectorTree" 121 "InjectorTree$Binding" "key" "I" "InjectorTree") s := fun _ h => h.1 _ (List.mem_of_getElem? (i := 5) rfl)
theorem nl_169 {A : Nat → Prop} {X : Nat → Nat} : ∀ s : State, zF A X s → va_Nw (.fieldLinkNest "InjectorTree" 169 "InjectorTree$Binding" "constant" "I" "InjectorTree") s := fun _ h => h.1 _ (List.mem_of_getElem? (i := 6) rfl)
theorem nl_88 {A : Nat → Prop} {X : Nat → Nat} : ∀ s : State, zF A X s → va_Nw (.fieldLinkNest "InjectorTree" 88 "InjectorTree$Binding" "scope" "I" "InjectorTree") s := fun _ h => h.1 _ (List.mem_of_getElem? (i := 7) rfl)
theorem nl_108 {A : Nat → Prop} {X : Nat → Nat} : ∀ s : State, zF A X s → va_Nw (.fieldLinkNest "InjectorTree" 108 "InjectorTree$Binding" "needs" "LInjectorTree$Needs;" "InjectorTree") s := fun _ h => h.1 _ (List.mem_of_getElem? (i := 8) rfl)
theorem nl_91 {A : Nat → Prop} {X : Nat → Nat} : ∀ s : State, zF A X s → va_Nw (.fieldLinkNest "InjectorTree" 91 "InjectorTree$Binding" "kept" "I" "InjectorTree") s := fun _ h => h.1 _ (List.mem_of_getElem? (i := 9) rfl)
theorem nl_172 {A : Nat → Prop} {X : Nat → Nat} : ∀ s : State, zF A X s → va_Nw (.fieldLinkNest "InjectorTree" 172 "InjectorTree$Binding" "inWork" "Z" "InjectorTree") s := fun _ h => h.1 _ (List.mem_of_getElem? (i := 10) rfl)
theorem nl_35 {A : Nat → Prop} {X : Nat → Nat} : ∀ s : State, zF A X s → va_Nw (.methodLinkNest "InjectorTree" 35 y_N_init "InjectorTree") s := fun _ h => h.1 _ (List.mem_of_getElem? (i := 11) rfl)
theorem nl_50 {A : Nat → Prop} {X : Nat → Nat} : ∀ s : State, zF A X s → va_Nw (.methodLinkNest "InjectorTree" 50 y_N_append "InjectorTree") s := fun _ h => h.1 _ (List.mem_of_getElem? (i := 12) rfl)
theorem nl_68 {A : Nat → Prop} {X : Nat → Nat} : ∀ s : State, zF A X s → va_Nw (.methodLinkNest "InjectorTree" 68 y_B_init "InjectorTree") s := fun _ h => h.1 _ (List.mem_of_getElem? (i := 13) rfl)
