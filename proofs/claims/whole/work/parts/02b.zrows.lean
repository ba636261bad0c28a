section ZS
variable {K : zC} {D : va_G} {cl : List vw_C} {A : Nat → Prop} {tys : List (ClassId × FieldType)} {F : State → Prop} {rm : Room} {cc : ByteArray} {own nm : String} {Ts : List Cond} {nL : Nat} {ret : Option FieldType} {Q : State → Prop} {cells slots pc : Nat} {σ : zh} {lv : List (Option Value)} {st : List Value}
theorem z_putF (C : zCx K D cl A tys F rm cc own nm Ts nL ret) {cn : String} {T : u_T} {N ci index a : Nat} {fs : List Value} {ty : FieldType} {v : Value} (hin : ∀ w ∈ u_ws cn T N, w ∈ Ts) (ty0 : Nat → FieldType) (hty : ∀ k, k < N → parseFieldDescriptor (T k).2.2.1 = some (ty0 k)) (hnm : ∀ a, a < N → ∀ b, b < N → a ≠ b → (T a).2.1 ≠ (T b).2.1) (h : σ a = some (ob ci fs)) (hc : cl[ci]? = some (cn, T, N)) (k : Nat) (hk : k < N) (hl : Cond.fieldLink own index own (T k).2.1 (T k).2.2.1 ∈ Ts) (hr : (T k).1 = own) (hfin : (T k).2.2.2 = true) (hin2 : nm = "<init>") (hd9 : parseFieldDescriptor (T k).2.2.1 = some ty) (hnn : narrow ty v = v) (hfit : fits ty v = true) (hl9 : k < fs.length) (hd : decode cc pc = .ok (.putfield index, 3)) (kk : zJ K D cl A nL Q (cells) (slots) (zput σ a (ob ci (fs.set k v))) (pc + 3) (lv) (st)) : zJ K D cl A nL Q (cells) (slots) (σ) (pc) (lv) (v :: .ref a :: st) := by
  obtain ⟨p, l, e, R, s, m, args, below, meth, c⟩ := K
  intro H locs ls hG hS hL
  obtain ⟨ws, hP, hD, hW⟩ := id hG
  obtain ⟨j, hj⟩ := hW a _ h
  exact va_putF C.1 C.2.1 C.2.2.2.2.1 hin ty0 hty hnm C.2.2.2.1 C.2.2.2.2.2.2.2.1 hP hD hS j hj hc k hk (C.2.2.2.2.1 _ hl) (fun x hx => by rw [← hr]; exact hx) hfin (C.2.2.2.2.2.2.2.2.2.2.2.2.trans hin2) hr hd9 hnn hfit hl9 hd (fun H1 locs1 hP1 hD1 hS1 => kk H1 locs1 ls (zG.set hW hj hP1 hD1) hS1 hL)
theorem z_new (C : zCx K D cl A tys F rm cc own nm Ts nL ret) {cn : String} {T : u_T} {N ci index : Nat} (hin : ∀ w ∈ u_ws cn T N, w ∈ Ts) (ty : Nat → FieldType) (hty : ∀ k, k < N → parseFieldDescriptor (T k).2.2.1 = some (ty k)) (hcl : Cond.classLink own index cn ∈ Ts) (hinst : Cond.instantiable cn N ∈ Ts) (hini : Cond.initialized cn ∈ Ts) (hc : cl[ci]? = some (cn, T, N)) {fs : List Value} (hfs : ∀ j, j < N → defaultValue (ty j) = vp_V fs j) (hcs : cells + 1 ≤ rm.cells) (hss : slots + N ≤ rm.slots) (hd : decode cc pc = .ok (.new index, 3)) (kk : ∀ q : Nat, (∀ (b : Nat) (x : va_E), σ b = some x → b ≠ q) → zJ K D cl A nL Q (cells + 1) (slots + N) (zput σ q (ob ci fs)) (pc + 3) (lv) (.ref q :: st)) : zJ K D cl A nL Q (cells) (slots) (σ) (pc) (lv) (st) := by
  obtain ⟨p, l, e, R, s, m, args, below, meth, c⟩ := K
  intro H locs ls hG hS hL
  obtain ⟨ws, hP, hD, hW⟩ := id hG
  have hR : R = rm := C.2.2.2.2.2.2.2.2.2.2.1
  refine va_new C.1 C.2.1 C.2.2.2.2.1 hin ty hty C.2.2.2.1 (C.2.2.2.2.1 _ hcl) (C.2.2.2.2.1 _ hinst) (C.2.2.2.2.1 _ hini) C.2.2.2.2.2.2.2.1 hP hD hS C.2.2.2.2.2.2.2.2.1 hc hfs (by rw [hR]; exact hcs) (by rw [hR]; exact hss) hd (fun q H1 hP1 hD1 hS1 => ?_)
  obtain ⟨g1, g2⟩ := zG.push hW hP1 hD1
  exact kk q g2 H1 locs ls g1 hS1 hL
theorem z_newi (C : zCx K D cl A tys F rm cc own nm Ts nL ret) {atype : ArrayType} {cA : ClassId} {i : Int} (t0 : Nat) (ht : tys[t0]? = some (cA, .int)) (harr : Cond.arrayClass .int ∈ Ts) (hty : newarray.typeOf atype = .int) (n : Nat) (hi : i = (n : Int)) (hn : n ≤ 1000000) (hcs : cells + 1 ≤ rm.cells) (hss : slots + n ≤ rm.slots) (hd : decode cc pc = .ok (.newarray atype, 2)) (kk : ∀ q : Nat, (∀ (b : Nat) (x : va_E), σ b = some x → b ≠ q) → zJ K D cl A nL Q (cells + 1) (slots + n) (zput σ q (ia cA n (fun _ => 0))) (pc + 2) (lv) (.ref q :: st)) : zJ K D cl A nL Q (cells) (slots) (σ) (pc) (lv) (iv i :: st) := by
  obtain ⟨p, l, e, R, s, m, args, below, meth, c⟩ := K
  intro H locs ls hG hS hL
  obtain ⟨ws, hP, hD, hW⟩ := id hG
  have hR : R = rm := C.2.2.2.2.2.2.2.2.2.2.1
  have hK := C.2.2.2.2.2.2.2.1
  refine va_newa (N' := n) (a0 := (n, .inl (fun _ => 0))) C.1 C.2.1 (by rw [hty]; exact C.2.2.2.2.1 _ harr) hty hK hP hD hS C.2.2.2.2.2.2.2.2.1 (fun cA => rfl) ?_ (zidx hi (by omega)) ?_ (by rw [hR]; exact hcs) (by rw [hR]; exact hss) hd (fun q cB H1 hK1 hP1 hD1 hS1 => ?_)
  · rw [← z32_0, z32_lt (by omega) (by omega)]; omega
  · have : componentBytes FieldType.int ≤ 8 := by decide
    exact Nat.le_trans (Nat.mul_le_mul hn this) (by decide)
  · have e1 := (hK.2 t0 _ ht).2
    have e2 := (hK1.2 tys.length (cB, .int) (by simp)).2
    have e3 : cB = cA := by
      have e4 : s.vm.findClass ("[" ++ (FieldType.int).toString) = some cA := e1
      have e5 : s.vm.findClass ("[" ++ (FieldType.int).toString) = some cB := e2
      exact Option.some.inj (e5.symm.trans e4)
    subst e3
    obtain ⟨g1, g2⟩ := zG.push hW hP1 hD1
    exact kk q g2 H1 locs ls g1 hS1 hL
theorem z_newz (C : zCx K D cl A tys F rm cc own nm Ts nL ret) {atype : ArrayType} {cA : ClassId} {i : Int} (t0 : Nat) (ht : tys[t0]? = some (cA, .boolean)) (harr : Cond.arrayClass .boolean ∈ Ts) (hty : newarray.typeOf atype = .boolean) (n : Nat) (hi : i = (n : Int)) (hn : n ≤ 1000000) (hcs : cells + 1 ≤ rm.cells) (hss : slots + n ≤ rm.slots) (hd : decode cc pc = .ok (.newarray atype, 2)) (kk : ∀ q : Nat, (∀ (b : Nat) (x : va_E), σ b = some x → b ≠ q) → zJ K D cl A nL Q (cells + 1) (slots + n) (zput σ q (ia cA n (fun _ => 0))) (pc + 2) (lv) (.ref q :: st)) : zJ K D cl A nL Q (cells) (slots) (σ) (pc) (lv) (iv i :: st) := by
  obtain ⟨p, l, e, R, s, m, args, below, meth, c⟩ := K
  intro H locs ls hG hS hL
  obtain ⟨ws, hP, hD, hW⟩ := id hG
  have hR : R = rm := C.2.2.2.2.2.2.2.2.2.2.1
  have hK := C.2.2.2.2.2.2.2.1
  refine va_newa (N' := n) (a0 := (n, .inl (fun _ => 0))) C.1 C.2.1 (by rw [hty]; exact C.2.2.2.2.1 _ harr) hty hK hP hD hS C.2.2.2.2.2.2.2.2.1 (fun cA => rfl) ?_ (zidx hi (by omega)) ?_ (by rw [hR]; exact hcs) (by rw [hR]; exact hss) hd (fun q cB H1 hK1 hP1 hD1 hS1 => ?_)
  · rw [← z32_0, z32_lt (by omega) (by omega)]; omega
  · have : componentBytes FieldType.boolean ≤ 8 := by decide
    exact Nat.le_trans (Nat.mul_le_mul hn this) (by decide)
  · have e1 := (hK.2 t0 _ ht).2
    have e2 := (hK1.2 tys.length (cB, .boolean) (by simp)).2
    have e3 : cB = cA := by
      have e4 : s.vm.findClass ("[" ++ (FieldType.boolean).toString) = some cA := e1
      have e5 : s.vm.findClass ("[" ++ (FieldType.boolean).toString) = some cB := e2
      exact Option.some.inj (e5.symm.trans e4)
    subst e3
    obtain ⟨g1, g2⟩ := zG.push hW hP1 hD1
    exact kk q g2 H1 locs ls g1 hS1 hL
theorem z_newl (C : zCx K D cl A tys F rm cc own nm Ts nL ret) {atype : ArrayType} {cA : ClassId} {i : Int} (t0 : Nat) (ht : tys[t0]? = some (cA, .long)) (harr : Cond.arrayClass .long ∈ Ts) (hty : newarray.typeOf atype = .long) (n : Nat) (hi : i = (n : Int)) (hn : n ≤ 1000000) (hcs : cells + 1 ≤ rm.cells) (hss : slots + n ≤ rm.slots) (hd : decode cc pc = .ok (.newarray atype, 2)) (kk : ∀ q : Nat, (∀ (b : Nat) (x : va_E), σ b = some x → b ≠ q) → zJ K D cl A nL Q (cells + 1) (slots + n) (zput σ q (la cA n (fun _ => 0))) (pc + 2) (lv) (.ref q :: st)) : zJ K D cl A nL Q (cells) (slots) (σ) (pc) (lv) (iv i :: st) := by
  obtain ⟨p, l, e, R, s, m, args, below, meth, c⟩ := K
  intro H locs ls hG hS hL
  obtain ⟨ws, hP, hD, hW⟩ := id hG
  have hR : R = rm := C.2.2.2.2.2.2.2.2.2.2.1
  have hK := C.2.2.2.2.2.2.2.1
  refine va_newa (N' := n) (a0 := (n, .inr (.inl (fun _ => 0)))) C.1 C.2.1 (by rw [hty]; exact C.2.2.2.2.1 _ harr) hty hK hP hD hS C.2.2.2.2.2.2.2.2.1 (fun cA => rfl) ?_ (zidx hi (by omega)) ?_ (by rw [hR]; exact hcs) (by rw [hR]; exact hss) hd (fun q cB H1 hK1 hP1 hD1 hS1 => ?_)
  · rw [← z32_0, z32_lt (by omega) (by omega)]; omega
  · have : componentBytes FieldType.long ≤ 8 := by decide
    exact Nat.le_trans (Nat.mul_le_mul hn this) (by decide)
  · have e1 := (hK.2 t0 _ ht).2
    have e2 := (hK1.2 tys.length (cB, .long) (by simp)).2
    have e3 : cB = cA := by
      have e4 : s.vm.findClass ("[" ++ (FieldType.long).toString) = some cA := e1
      have e5 : s.vm.findClass ("[" ++ (FieldType.long).toString) = some cB := e2
      exact Option.some.inj (e5.symm.trans e4)
    subst e3
    obtain ⟨g1, g2⟩ := zG.push hW hP1 hD1
    exact kk q g2 H1 locs ls g1 hS1 hL
theorem z_newa (C : zCx K D cl A tys F rm cc own nm Ts nL ret) {cA : ClassId} {cn : String} {i : Int} {index : Nat} (t0 : Nat) (ht : tys[t0]? = some (cA, .object cn)) (hcl : Cond.classLink own index cn ∈ Ts) (hov : ∀ s : State, F s → va_AO cn s) (n : Nat) (hi : i = (n : Int)) (hn : n ≤ 1000000) (hcs : cells + 1 ≤ rm.cells) (hss : slots + n ≤ rm.slots) (hd : decode cc pc = .ok (.anewarray index, 3)) (kk : ∀ q : Nat, (∀ (b : Nat) (x : va_E), σ b = some x → b ≠ q) → zJ K D cl A nL Q (cells + 1) (slots + n) (zput σ q (ra cA n (fun _ => none))) (pc + 3) (lv) (.ref q :: st)) : zJ K D cl A nL Q (cells) (slots) (σ) (pc) (lv) (iv i :: st) := by
  obtain ⟨p, l, e, R, s, m, args, below, meth, c⟩ := K
  intro H locs ls hG hS hL
  obtain ⟨ws, hP, hD, hW⟩ := id hG
  have hR : R = rm := C.2.2.2.2.2.2.2.2.2.2.1
  have hK := C.2.2.2.2.2.2.2.1
  refine va_newq (N' := n) C.1 C.2.1 C.2.2.2.1 (C.2.2.2.2.1 _ hcl) (hov s C.2.2.2.2.2.2.2.2.2.1) hK hP hD hS C.2.2.2.2.2.2.2.2.1 ?_ (zidx hi (by omega)) (by omega) (by rw [hR]; exact hcs) (by rw [hR]; exact hss) hd (fun q cB H1 hK1 hP1 hD1 hS1 => ?_)
  · rw [← z32_0, z32_lt (by omega) (by omega)]; omega
  · obtain ⟨k1, m1, a1, a2, a3, a4⟩ := (hK.2 t0 _ ht).2
    obtain ⟨k2, m2, b1, b2, b3, b4⟩ := (hK1.2 tys.length (cB, .object cn) (by simp)).2
    have e3 : cB = cA := Option.some.inj (b4.symm.trans a4)
    subst e3
    obtain ⟨g1, g2⟩ := zG.push hW hP1 hD1
    exact kk q g2 H1 locs ls g1 hS1 hL
theorem z_gets (C : zCx K D cl A tys F rm cc own nm Ts nL ret) {cn n d : String} {v : Value} {index : Nat} (hZ : ∀ s : State, F s → va_Z cn n d v A s s.heap) (hl : Cond.fieldLink own index cn n d ∈ Ts) (hd : decode cc pc = .ok (.getstatic index, 3)) (kk : zJ K D cl A nL Q (cells) (slots) (σ) (pc + 3) (lv) (v :: st)) : zJ K D cl A nL Q (cells) (slots) (σ) (pc) (lv) (st) := by
  obtain ⟨p, l, e, R, s, m, args, below, meth, c⟩ := K
  intro H locs ls hG hS hL
  exact va_gets C.1 C.2.1 (hZ s C.2.2.2.2.2.2.2.2.2.1) hS C.2.2.2.1 (C.2.2.2.2.1 _ hl) (fun _ h => h) hd (kk H locs ls hG hS hL)
theorem z_oinit (C : zCx K D cl A tys F rm cc own nm Ts nL ret) {idx a : Nat} (h1 : Cond.methodLink own idx objectInit ∈ Ts) (h2 : Cond.instanceMethod objectInit ∈ Ts) (h3 : Cond.code objectInit ⟨#[0xb1]⟩ 1 none ∈ Ts) (hd : decode cc pc = .ok (.invokespecial idx, 3)) (hf : 1 ≤ rm.frames) (hlo : 20 ≤ rm.locals) (hw : (st.map fun v => v.category).sum ≤ 8) (kk : zJ K D cl A nL Q (cells) (slots) (σ) (pc + 3) (lv) (st)) : zJ K D cl A nL Q (cells) (slots) (σ) (pc) (lv) (.ref a :: st) := by
  obtain ⟨p, l, e, R, s, m, args, below, meth, c⟩ := K
  intro H locs ls hG hS hL
  have hR : R = rm := C.2.2.2.2.2.2.2.2.2.2.1
  have hml : c.maxLocals = nL := C.2.2.1
  have hz := lv_room (m := m) (pc := pc) (ls := ls) (rest := Value.ref a :: st) hw
  refine W.objInit C.1 C.2.1 C.2.2.2.1 (C.2.2.2.2.1 _ h1) (C.2.2.2.2.1 _ h2) (C.2.2.2.2.1 _ h3) rfl (by rw [hml]; exact hL.1) rfl hd (by rw [hR]; exact hf) (by rw [hR]; omega) ?_
  exact kk H locs ls hG hS hL
theorem z_copyl (C : zCx K D cl A tys F rm cc own nm Ts nL ret) {index a0 a : Nat} {c0 c1 : ClassId} {n0 n1 : Nat} {f g : Nat → Int} {sp dp n : Int} (t0 t1 : Nat) (hl1 : Cond.methodLink own index arraycopyName ∈ Ts) (hl2 : Cond.native arraycopyName ∈ Ts) (hl3 : Cond.static arraycopyName ∈ Ts) (hl4 : Cond.initialized "java/lang/System" ∈ Ts) (ht0 : tys[t0]? = some (c0, .long)) (ht1 : tys[t1]? = some (c1, .long)) (h0 : σ a0 = some (la c0 n0 f)) (h : σ a = some (la c1 n1 g)) (x y z : Nat) (hx : sp = (x : Int)) (hy : dp = (y : Int)) (hz : n = (z : Int)) (hxy : x + z ≤ n0 ∧ y + z ≤ n1 ∧ n0 ≤ 100000 ∧ n1 ≤ 100000) (hfr : 1 ≤ rm.frames) (hlo : (st.map fun v => v.category).sum + (nativeFrameWords "java/lang/System" "arraycopy" 5 + 11) ≤ rm.locals) (hd : decode cc pc = .ok (.invokestatic index, 3)) (kk : zJ K D cl A nL Q (cells) (slots) (zput σ a (la c1 n1 (va_cpy f g x y z))) (pc + 3) (lv) (st)) : zJ K D cl A nL Q (cells) (slots) (σ) (pc) (lv) (iv n :: iv dp :: .ref a :: iv sp :: .ref a0 :: st) := by
  obtain ⟨p, l, e, R, s, m, args, below, meth, c⟩ := K
  intro H locs ls hG hS hL
  obtain ⟨ws, hP, hD, hW⟩ := id hG
  obtain ⟨j, hj⟩ := hW a _ h
  obtain ⟨j0, hj0⟩ := hW a0 _ h0
  have hR : R = rm := C.2.2.2.2.2.2.2.2.2.2.1
  have hml : c.maxLocals = nL := C.2.2.1
  have neg : ∀ {v : Int} {w : Nat}, v = (w : Int) → w ≤ 100000 → ¬ Int32.ofInt v < 0 := fun {v w} e1 e2 => by rw [← z32_0, z32_lt (by omega) (by omega)]; omega
  refine va_copyl C.1 C.2.1 (by rw [hml]; exact hL.1.symm) C.2.2.2.1 (C.2.2.2.2.1 _ hl1) (C.2.2.2.2.1 _ hl2) (C.2.2.2.2.1 _ hl3) (C.2.2.2.2.1 _ hl4) C.2.2.2.2.2.2.2.1 hP hD hS j0 j t0 t1 hj0 hj ht0 ht1 rfl (neg hx (by omega)) (neg hy (by omega)) (neg hz (by omega)) (by rw [zidx hx (by omega), zidx hz (by omega)]; exact hxy.1) (by rw [zidx hy (by omega), zidx hz (by omega)]; exact hxy.2.1) (fun i _ => rfl) (by rw [hR]; exact hfr) (by rw [hR]; exact hlo) hd (fun H1 locs1 hP1 hD1 hS1 => ?_)
  rw [zidx hx (by omega), zidx hy (by omega), zidx hz (by omega)] at hP1 hD1
  have e9 : va_cpy (fun j => Int64.ofInt (f j)) (fun j => Int64.ofInt (g j)) x y z = fun j => Int64.ofInt (va_cpy f g x y z j) := by
    funext q
    unfold va_cpy
    split <;> rfl
  rw [e9] at hP1 hD1
  exact kk H1 locs1 ls (zG.set hW hj hP1 hD1) hS1 hL
/-- behind a call -/
theorem z_run {post : Option Value → zh → Prop} {mc ms : Nat} {p : Program} {l : Launch} {e : Env} {R : Room} {s : State} {m : MethodId} {args : Array Value} {below : List Frame} {meth : Method} {c : Code} {H : Heap} {locs : List Loc} {ls : Array Slot} {st0 rest : List Value} {a : Array Value}
    (hS : va_S A s.heap H locs) (hL : zL ls nL lv) (hr : va_Run p l e R s m args below meth c H locs cells slots mc ms (F0 m pc ls st0) rest (zQc D cl A post a) A)
    (kk : ∀ (r : Option Value) (σ' : zh), post r σ' → zJ (p, l, e, R, s, m, args, below, meth, c) D cl A nL Q (cells + mc) (slots + ms) σ' (pc + 3) lv (r.toList ++ rest)) : W p l e R s m args below meth c H locs cells slots Q (F0 m pc ls st0) := by
  intro T hT X
  obtain ⟨v, st₀, t, T', L, h0, X', hL', e1, e2, ⟨⟨r, σ', hv, hp, hg⟩, hz, hk⟩, go⟩ := hr T hT X
  cases hv
  rw [h0] at hz hk
  obtain ⟨t2, a1, b1⟩ := kk v σ' hp T'.heap (locs ++ L) ls (by rw [e1]; exact hg)
    ⟨Nat.le_trans hS.1 (by rw [e1]; exact hz), fun q h1 h2 => by rw [e1, hk q (Nat.lt_of_lt_of_le h1 hS.1) h2]; exact hS.2.1 q h1 h2, fun q hq => by
      rcases List.mem_append.mp hq with h | h
      · exact hS.2.2 q h
      · exact hL' q h⟩ hL T' rfl X'
  exact ⟨t2, go t2 a1, b1⟩
theorem zPc_ok {s : State} {H : Heap} {locs : List Loc} {vals : List Value} (hF : zFok F A) (hA : ∀ q, s.heap.size ≤ q → A q) (hK : va_K D cl tys s) (hFs : F s) (hG : zG D cl A σ H) (hS : va_S A s.heap H locs) : PreS s H (zPc D cl A tys F vals σ) vals := by
  refine ⟨fun a U g mk q => ?_, fun U hU hW => ?_⟩
  · obtain ⟨q0, q1, q2, q3, q4⟩ := q
    exact ⟨q0, q1, va_K.moved (u := U) (U := U.calling g mk a) (Vm.Alike.refl U.vm) q2, hF.1 U g mk a q3, q4⟩
  · subst hU
    exact ⟨rfl, fun q h => hA q (Nat.le_trans hS.1 h), va_K.moved hW.alike hK, hF.2 s U hW hS.1 hS.2.1 hFs, hG⟩
theorem z_callS (C : zCx K D cl A tys F rm cc own nm Ts nL ret)  {l : Launch} {y : MethodName} {ws ws' : List Cond} {rm2 : Room} {As : List Value} {post : Option Value → zh → Prop} {bytes : ByteArray} {maxL index n : Nat} {ret2 : Option FieldType} (hKl : K.2.1 = l) (hM : zM l D cl A tys F y ws rm2 As σ post) (hG0 : GoodIn Ts ws) (hw : ws = Cond.code y bytes maxL ret2 :: ws') (hli : Cond.methodLink own index y ∈ Ts) (hsta : Cond.static y ∈ Ts) (hini : Cond.initialized y.cls ∈ Ts) (hd0 : y.cls ≠ "java/lang/invoke/MethodHandle" ∧ y.cls ≠ "java/lang/invoke/VarHandle" ∧ (parseMethodDescriptor y.desc).map (fun d => d.parameters.length) = some n) (hR2 : rm2.frames + 1 ≤ rm.frames ∧ 8 + (maxL + 11) + rm2.locals ≤ rm.locals) (hn : As.length = n) (hst : (st.map fun v => v.category).sum ≤ 8) (hf : cells + rm2.cells ≤ rm.cells ∧ slots + rm2.slots ≤ rm.slots) (hd : decode cc pc = .ok (.invokestatic index, 3)) (kk : ∀ (r : Option Value) (σ' : zh), post r σ' → zJ K D cl A nL Q (cells + rm2.cells) (slots + rm2.slots) (σ') (pc + 3) (lv) (r.toList ++ st)) : zJ K D cl A nL Q (cells) (slots) (σ) (pc) (lv) (As.reverse ++ st) := by
  obtain ⟨p, l, e, R, s, m, args, below, meth, c⟩ := K
  intro H locs ls hG hS hL
  have hR : R = rm := C.2.2.2.2.2.2.2.2.2.2.1
  have hml : c.maxLocals = nL := C.2.2.1
  subst hKl
  have hF : zFok F A := C.2.2.2.2.2.2.2.2.2.2.2.1
  have hp := fun vals => zPc_ok (vals := vals) hF C.2.2.2.2.2.2.2.2.1 C.2.2.2.2.2.2.2.1 C.2.2.2.2.2.2.2.2.2.1 hG hS
  refine z_run hS hL (va_runS (As := As) (rest := st) ⟨C.1, C.2.1, hml, C.2.2.2.1, C.2.2.2.2.1⟩ hM ⟨callB_of n C.2.2.2.2.1 hG0 hw rfl rfl (C.2.2.2.2.1 _ hini) (C.2.2.2.2.1 _ hli) hd0 (by rw [hR]; exact hR2), C.2.2.2.2.1 _ hsta⟩ (hp As) rfl hn hL.1 rfl (lv_room hst) hd (by rw [hR]; exact hf)) kk
theorem z_callV (C : zCx K D cl A tys F rm cc own nm Ts nL ret)  {l : Launch} {y : MethodName} {ws ws' : List Cond} {rm2 : Room} {As : List Value} {post : Option Value → zh → Prop} {bytes : ByteArray} {maxL index n : Nat} {ret2 : Option FieldType} (hKl : K.2.1 = l) {b : Nat} (hM : zM l D cl A tys F y ws rm2 (.ref b :: As) σ post) (hG0 : GoodIn Ts ws) (hw : ws = Cond.code y bytes maxL ret2 :: ws') {ci : Nat} {cn : String} {T : u_T} {N : Nat} {fs : List Value} (hb : σ b = some (ob ci fs)) (hc : cl[ci]? = some (cn, T, N)) (hli : Cond.methodLink own index y ∈ Ts) (hins : Cond.instanceMethod y ∈ Ts) (hsel : Cond.selects cn y y ∈ Ts) (hini : Cond.initialized y.cls ∈ Ts) (hd0 : y.cls ≠ "java/lang/invoke/MethodHandle" ∧ y.cls ≠ "java/lang/invoke/VarHandle" ∧ (parseMethodDescriptor y.desc).map (fun d => d.parameters.length) = some n) (hR2 : rm2.frames + 1 ≤ rm.frames ∧ 8 + (maxL + 11) + rm2.locals ≤ rm.locals) (hn : As.length = n) (hst : (st.map fun v => v.category).sum ≤ 8) (hf : cells + rm2.cells ≤ rm.cells ∧ slots + rm2.slots ≤ rm.slots) (hd : decode cc pc = .ok (.invokevirtual index, 3)) (kk : ∀ (r : Option Value) (σ' : zh), post r σ' → zJ K D cl A nL Q (cells + rm2.cells) (slots + rm2.slots) (σ') (pc + 3) (lv) (r.toList ++ st)) : zJ K D cl A nL Q (cells) (slots) (σ) (pc) (lv) (As.reverse ++ .ref b :: st) := by
  obtain ⟨p, l, e, R, s, m, args, below, meth, c⟩ := K
  intro H locs ls hG hS hL
  have hR : R = rm := C.2.2.2.2.2.2.2.2.2.2.1
  have hml : c.maxLocals = nL := C.2.2.1
  subst hKl
  have hF : zFok F A := C.2.2.2.2.2.2.2.2.2.2.2.1
  have hp := fun vals => zPc_ok (vals := vals) hF C.2.2.2.2.2.2.2.2.1 C.2.2.2.2.2.2.2.1 C.2.2.2.2.2.2.2.2.2.1 hG hS
  have hrc : ∃ cellB : Cell, H[b]? = some cellB ∧ cellB.vm.isStatics = false ∧ s.vm.findClass cn = some cellB.cls := by
    obtain ⟨ws0, hP, hD, hW⟩ := hG
    obtain ⟨j, hj⟩ := hW b _ hb
    exact va_recv C.2.2.2.2.2.2.2.1 hP hc hj
  refine z_run hS hL (va_runV (C := cn) (As := As) (rest := st) ⟨C.1, C.2.1, hml, C.2.2.2.1, C.2.2.2.2.1⟩ hM ⟨callB_of n C.2.2.2.2.1 hG0 hw rfl rfl (C.2.2.2.2.1 _ hini) (C.2.2.2.2.1 _ hli) hd0 (by rw [hR]; exact hR2), C.2.2.2.2.1 _ hins, C.2.2.2.2.1 _ hsel⟩ ⟨(hp (.ref b :: As)).1, hrc, (hp (.ref b :: As)).2⟩ rfl hn hL.1 rfl (lv_room hst) hd (by rw [hR]; exact hf)) kk
theorem z_callI (C : zCx K D cl A tys F rm cc own nm Ts nL ret)  {l : Launch} {y : MethodName} {ws ws' : List Cond} {rm2 : Room} {As : List Value} {post : Option Value → zh → Prop} {bytes : ByteArray} {maxL index n : Nat} {ret2 : Option FieldType} (hKl : K.2.1 = l) {b : Nat} (hM : zM l D cl A tys F y ws rm2 (.ref b :: As) σ post) (hG0 : GoodIn Ts ws) (hw : ws = Cond.code y bytes maxL none :: ws') (hli : Cond.methodLink own index y ∈ Ts) (hins : Cond.instanceMethod y ∈ Ts) (hini : Cond.initialized y.cls ∈ Ts) (hnm : y.name = "<init>") (hd0 : y.cls ≠ "java/lang/invoke/MethodHandle" ∧ y.cls ≠ "java/lang/invoke/VarHandle" ∧ (parseMethodDescriptor y.desc).map (fun d => d.parameters.length) = some n) (hR2 : rm2.frames + 1 ≤ rm.frames ∧ 8 + (maxL + 11) + rm2.locals ≤ rm.locals) (hn : As.length = n) (hst : (st.map fun v => v.category).sum ≤ 8) (hf : cells + rm2.cells ≤ rm.cells ∧ slots + rm2.slots ≤ rm.slots) (hd : decode cc pc = .ok (.invokespecial index, 3)) (kk : ∀ (r : Option Value) (σ' : zh), post r σ' → zJ K D cl A nL Q (cells + rm2.cells) (slots + rm2.slots) (σ') (pc + 3) (lv) (r.toList ++ st)) : zJ K D cl A nL Q (cells) (slots) (σ) (pc) (lv) (As.reverse ++ .ref b :: st) := by
  obtain ⟨p, l, e, R, s, m, args, below, meth, c⟩ := K
  intro H locs ls hG hS hL
  have hR : R = rm := C.2.2.2.2.2.2.2.2.2.2.1
  have hml : c.maxLocals = nL := C.2.2.1
  subst hKl
  have hF : zFok F A := C.2.2.2.2.2.2.2.2.2.2.2.1
  have hp := fun vals => zPc_ok (vals := vals) hF C.2.2.2.2.2.2.2.2.1 C.2.2.2.2.2.2.2.1 C.2.2.2.2.2.2.2.2.2.1 hG hS
  refine z_run hS hL (va_runI (As := As) (rest := st) ⟨C.1, C.2.1, hml, C.2.2.2.1, C.2.2.2.2.1⟩ hM ⟨callB_of n C.2.2.2.2.1 hG0 hw rfl rfl (C.2.2.2.2.1 _ hini) (C.2.2.2.2.1 _ hli) hd0 (by rw [hR]; exact hR2), hnm, C.2.2.2.2.1 _ hins⟩ (hp (.ref b :: As)) rfl hn hL.1 rfl (lv_room hst) hd (by rw [hR]; exact hf)) kk
theorem z_callVN (C : zCx K D cl A tys F rm cc own nm Ts nL ret)  {l : Launch} {y : MethodName} {ws ws' : List Cond} {rm2 : Room} {As : List Value} {post : Option Value → zh → Prop} {bytes : ByteArray} {maxL index n : Nat} {ret2 : Option FieldType} (hKl : K.2.1 = l) {b : Nat} (hM : zM l D cl A tys F y ws rm2 (.ref b :: As) σ post) (hG0 : GoodIn Ts ws) (hw : ws = Cond.code y bytes maxL ret2 :: ws') {ci : Nat} {cn : String} {T : u_T} {N : Nat} {fs : List Value} (hb : σ b = some (ob ci fs)) (hc : cl[ci]? = some (cn, T, N)) {host : String} (hli : ∀ s : State, F s → va_Nw (.methodLinkNest own index y host) s) (hins : Cond.instanceMethod y ∈ Ts) (hsel : Cond.selects cn y y ∈ Ts) (hini : Cond.initialized y.cls ∈ Ts) (hd0 : y.cls ≠ "java/lang/invoke/MethodHandle" ∧ y.cls ≠ "java/lang/invoke/VarHandle" ∧ (parseMethodDescriptor y.desc).map (fun d => d.parameters.length) = some n) (hR2 : rm2.frames + 1 ≤ rm.frames ∧ 8 + (maxL + 11) + rm2.locals ≤ rm.locals) (hn : As.length = n) (hst : (st.map fun v => v.category).sum ≤ 8) (hf : cells + rm2.cells ≤ rm.cells ∧ slots + rm2.slots ≤ rm.slots) (hd : decode cc pc = .ok (.invokevirtual index, 3)) (kk : ∀ (r : Option Value) (σ' : zh), post r σ' → zJ K D cl A nL Q (cells + rm2.cells) (slots + rm2.slots) (σ') (pc + 3) (lv) (r.toList ++ st)) : zJ K D cl A nL Q (cells) (slots) (σ) (pc) (lv) (As.reverse ++ .ref b :: st) := by
  obtain ⟨p, l, e, R, s, m, args, below, meth, c⟩ := K
  intro H locs ls hG hS hL
  have hR : R = rm := C.2.2.2.2.2.2.2.2.2.2.1
  have hml : c.maxLocals = nL := C.2.2.1
  subst hKl
  have hF : zFok F A := C.2.2.2.2.2.2.2.2.2.2.2.1
  have hp := fun vals => zPc_ok (vals := vals) hF C.2.2.2.2.2.2.2.2.1 C.2.2.2.2.2.2.2.1 C.2.2.2.2.2.2.2.2.2.1 hG hS
  have hrc : ∃ cellB : Cell, H[b]? = some cellB ∧ cellB.vm.isStatics = false ∧ s.vm.findClass cn = some cellB.cls := by
    obtain ⟨ws0, hP, hD, hW⟩ := hG
    obtain ⟨j, hj⟩ := hW b _ hb
    exact va_recv C.2.2.2.2.2.2.2.1 hP hc hj
  refine z_run hS hL (va_runVN (C := cn) (host := host) (As := As) (rest := st) ⟨C.1, C.2.1, hml, C.2.2.2.1, C.2.2.2.2.1⟩ hM ⟨va_cnB n C.2.2.2.2.1 hG0 hw rfl rfl (hli s C.2.2.2.2.2.2.2.2.2.1) (C.2.2.2.2.1 _ hini) hd0 (by rw [hR]; exact hR2), C.2.2.2.2.1 _ hins, C.2.2.2.2.1 _ hsel⟩ ⟨(hp (.ref b :: As)).1, hrc, (hp (.ref b :: As)).2⟩ rfl hn hL.1 rfl (lv_room hst) hd (by rw [hR]; exact hf)) kk
theorem z_callIN (C : zCx K D cl A tys F rm cc own nm Ts nL ret)  {l : Launch} {y : MethodName} {ws ws' : List Cond} {rm2 : Room} {As : List Value} {post : Option Value → zh → Prop} {bytes : ByteArray} {maxL index n : Nat} {ret2 : Option FieldType} (hKl : K.2.1 = l) {b : Nat} (hM : zM l D cl A tys F y ws rm2 (.ref b :: As) σ post) (hG0 : GoodIn Ts ws) (hw : ws = Cond.code y bytes maxL none :: ws') {host : String} (hli : ∀ s : State, F s → va_Nw (.methodLinkNest own index y host) s) (hins : Cond.instanceMethod y ∈ Ts) (hini : Cond.initialized y.cls ∈ Ts) (hnm : y.name = "<init>") (hd0 : y.cls ≠ "java/lang/invoke/MethodHandle" ∧ y.cls ≠ "java/lang/invoke/VarHandle" ∧ (parseMethodDescriptor y.desc).map (fun d => d.parameters.length) = some n) (hR2 : rm2.frames + 1 ≤ rm.frames ∧ 8 + (maxL + 11) + rm2.locals ≤ rm.locals) (hn : As.length = n) (hst : (st.map fun v => v.category).sum ≤ 8) (hf : cells + rm2.cells ≤ rm.cells ∧ slots + rm2.slots ≤ rm.slots) (hd : decode cc pc = .ok (.invokespecial index, 3)) (kk : ∀ (r : Option Value) (σ' : zh), post r σ' → zJ K D cl A nL Q (cells + rm2.cells) (slots + rm2.slots) (σ') (pc + 3) (lv) (r.toList ++ st)) : zJ K D cl A nL Q (cells) (slots) (σ) (pc) (lv) (As.reverse ++ .ref b :: st) := by
  obtain ⟨p, l, e, R, s, m, args, below, meth, c⟩ := K
  intro H locs ls hG hS hL
  have hR : R = rm := C.2.2.2.2.2.2.2.2.2.2.1
  have hml : c.maxLocals = nL := C.2.2.1
  subst hKl
  have hF : zFok F A := C.2.2.2.2.2.2.2.2.2.2.2.1
  have hp := fun vals => zPc_ok (vals := vals) hF C.2.2.2.2.2.2.2.2.1 C.2.2.2.2.2.2.2.1 C.2.2.2.2.2.2.2.2.2.1 hG hS
  refine z_run hS hL (va_runIN (host := host) (As := As) (rest := st) ⟨C.1, C.2.1, hml, C.2.2.2.1, C.2.2.2.2.1⟩ hM ⟨va_cnB n C.2.2.2.2.1 hG0 hw rfl rfl (hli s C.2.2.2.2.2.2.2.2.2.1) (C.2.2.2.2.1 _ hini) hd0 (by rw [hR]; exact hR2), hnm, C.2.2.2.2.1 _ hins⟩ (hp (.ref b :: As)) rfl hn hL.1 rfl (lv_room hst) hd (by rw [hR]; exact hf)) kk
end ZS
