/-! THE LAW: rows of its own -/
def zSc (K : zC) (A : Nat → Prop) (b L : Nat) (xs : Nat → Int32) : Prop := match K with
  | (_, _, _, _, s, _, _, _, _, _) => va_X b L xs s s.heap ∧ b < s.heap.size ∧ ¬ A b
section LR
variable {K : zC} {D : va_G} {cl : List vw_C} {A : Nat → Prop} {tys : List (ClassId × FieldType)} {F : State → Prop} {rm : Room} {cc : ByteArray} {own nm : String} {Ts : List Cond} {nL : Nat} {ret : Option FieldType} {Q : State → Prop} {cells slots pc : Nat} {σ : zh} {lv : List (Option Value)} {st : List Value}
theorem z_slen (C : zCx K D cl A tys F rm cc own nm Ts nL ret) {b L : Nat} {xs : Nat → Int32} (hX : zSc K A b L xs) (hd : decode cc pc = .ok (.arraylength, 1)) (kk : zJ K D cl A nL Q cells slots σ (pc + 1) lv (iv (L : Int) :: st)) : zJ K D cl A nL Q cells slots σ pc lv (.ref b :: st) := by
  obtain ⟨p, l, e, R, s, m, args, below, meth, c⟩ := K
  intro H locs ls hG hS hL
  exact va_slen C.1 C.2.1 hX.1 hX.2.1 hX.2.2 hS hd (kk H locs ls hG hS hL)
theorem z_sld (C : zCx K D cl A tys F rm cc own nm Ts nL ret) {b L : Nat} {xs : Nat → Int32} (hX : zSc K A b L xs) {i : Int} (k : Nat) (hk : i = (k : Int)) (hlt : k < L) (hm : L ≤ 2147483647) (hd : decode cc pc = .ok (.iaload, 1)) (kk : zJ K D cl A nL Q cells slots σ (pc + 1) lv (iv (xs k).toInt :: st)) : zJ K D cl A nL Q cells slots σ pc lv (iv i :: .ref b :: st) := by
  obtain ⟨p, l, e, R, s, m, args, below, meth, c⟩ := K
  intro H locs ls hG hS hL
  refine va_sld C.1 C.2.1 hX.1 hX.2.1 hX.2.2 hS (zin hk (by omega) hlt) hd ?_
  have j := kk H locs ls hG hS hL
  rw [zidx hk (by omega)]
  rw [show iv (xs k).toInt = Value.int (xs k) from congrArg Value.int (Int32.ofInt_toInt _)] at j
  exact j
theorem z_icmp_same (C : zCx K D cl A tys F rm cc own nm Ts nL ret) {a : Int} {off : Int} (tgt : Nat) (hd : decode cc pc = .ok (.if_icmp .eq off, 3)) (ht : (pc : Int) + off = (tgt : Int)) (kt : zJ K D cl A nL Q cells slots σ tgt lv st) : zJ K D cl A nL Q cells slots σ pc lv (iv a :: iv a :: st) := by
  obtain ⟨p, l, e, R, s, m, args, below, meth, c⟩ := K
  intro H locs ls hG hS hL
  exact lv_icmp_eq C.1 C.2.1 hd ht (fun _ => kt H locs ls hG hS hL) (fun q => absurd rfl q)
theorem z_lcmp_same (C : zCx K D cl A tys F rm cc own nm Ts nL ret) {a : Int} (hd : decode cc pc = .ok (.lcmp, 1)) (k : zJ K D cl A nL Q cells slots σ (pc + 1) lv (iv 0 :: st)) : zJ K D cl A nL Q cells slots σ pc lv (jv a :: jv a :: st) := by
  obtain ⟨p, l, e, R, s, m, args, below, meth, c⟩ := K
  intro H locs ls hG hS hL
  refine W.lcmp C.1 C.2.1 hd ?_
  rw [show lg_cmp (Int64.ofInt a) (Int64.ofInt a) = Int32.ofInt 0 from by simp [lg_cmp]]
  exact k H locs ls hG hS hL
theorem and31 (x : Int32) : ∃ n : Nat, n ≤ 31 ∧ x &&& Int32.ofInt 31 = Int32.ofInt (n : Int) := by
  obtain ⟨n, hn, rfl⟩ := wb_of32 x
  refine ⟨n &&& 31, Nat.and_le_right, ?_⟩
  exact bx_and32 hn (by decide)
theorem z_and31 (C : zCx K D cl A tys F rm cc own nm Ts nL ret) {a : Int} (hd : decode cc pc = .ok (.iand, 1)) (kk : ∀ n : Nat, n ≤ 31 → zJ K D cl A nL Q cells slots σ (pc + 1) lv (iv (n : Int) :: st)) : zJ K D cl A nL Q cells slots σ pc lv (iv 31 :: iv a :: st) := by
  refine z_iand C hd ?_
  obtain ⟨n, h1, h2⟩ := and31 (Int32.ofInt a)
  rw [h2]
  exact kk n h1
end LR
theorem zF_cg {A : Nat → Prop} {X Y : Nat → Nat} (h9 : X 9 = Y 9) (h10 : X 10 = Y 10) (h11 : X 11 = Y 11) : zF A X = zF A Y := by
  funext U
  unfold zF
  rw [h9, h10, h11]
/-- both worlds, side by side, at one state -/
def LWd (cI cZ cJ cB : ClassId) (X : Nat → Nat) (O : Nat → Prop) (m0 : Nat) (ad : Nat → Nat) (s : St) (σ : zh) : Prop := RM cI cZ cJ m0 ad s σ ∧ xR cI cZ cJ cB X O s σ ∧ (∀ a, MA m0 ad a → ¬ O a) ∧ IV s
section LWS
variable {cI cZ cJ cB : ClassId} {X : Nat → Nat} {O O' : Nat → Prop} {m0 : Nat} {ad : Nat → Nat} {s s' : St} {σ σ1 σ2 : zh}
theorem RM.fr (h : RM cI cZ cJ m0 ad s σ) (hd : ∀ a, MA m0 ad a → ¬ O a) (hf : xfr O O' σ σ1) : RM cI cZ cJ m0 ad s σ1 ∧ ∀ a, MA m0 ad a → ¬ O' a := by
  obtain ⟨h1, h2, h3⟩ := h
  have k0 := hf m0 _ h1 (hd _ (Or.inl rfl))
  have kf := fun f (hf2 : marr f = true) => hf (ad f) _ (h2 f hf2) (hd _ (Or.inr ⟨f, hf2, rfl⟩))
  refine ⟨⟨k0.1, fun f hf2 => (kf f hf2).1, h3⟩, fun a ha => ?_⟩
  rcases ha with rfl | ⟨f, hf2, rfl⟩
  · exact k0.2
  · exact (kf f hf2).2
theorem xR.mfr (h : xR cI cZ cJ cB X O s σ) (hd : ∀ a, MA m0 ad a → ¬ O a) (hm : ∀ a, ¬ MA m0 ad a → σ1 a = σ a) : xR cI cZ cJ cB X O s σ1 := by
  obtain ⟨bnd, mkr, g, hx⟩ := h
  exact ⟨bnd, mkr, g, hx.fr (fun _ h => h) (fun a ha => hm a (fun z => hd a z ha))⟩
/-- the class's call, then the reference's -/
theorem LWd.step (h : LWd cI cZ cJ cB X O m0 ad s σ) (h1 : xP cI cZ cJ cB X O σ s' σ1) (h2 : mR cI cZ cJ m0 ad σ1 s' σ2) (h3 : IV s') : ∃ (X' : Nat → Nat) (O' : Nat → Prop), (X' 0 = X 0 ∧ X' 9 = X 9 ∧ X' 10 = X 10 ∧ X' 11 = X 11) ∧ LWd cI cZ cJ cB X' O' m0 ad s' σ2 := by
  obtain ⟨X', O', e0, e9, e10, e11, hx, hf⟩ := h1
  have hr := h.1.fr h.2.2.1 hf
  exact ⟨X', O', ⟨e0, e9, e10, e11⟩, h2.1, hx.mfr hr.2 h2.2, hr.2, h3⟩
theorem LWd.rm1 (h : LWd cI cZ cJ cB X O m0 ad s σ) (h1 : xP cI cZ cJ cB X O σ s' σ1) : RM cI cZ cJ m0 ad s σ1 := by
  obtain ⟨X', O', e0, e9, e10, e11, hx, hf⟩ := h1
  exact (h.1.fr h.2.2.1 hf).1
/-- getting -/
theorem LWd.rm2 (h : LWd cI cZ cJ cB X O m0 ad s σ) (hF : xF O σ σ1) : RM cI cZ cJ m0 ad s σ1 := (h.1.fr h.2.2.1 hF.1).1
theorem LWd.stepg {s2 : St} {bnd mkr : Nat → Option Nat} {g : Nat → Nat → Int} (h : LWd cI cZ cJ cB X O m0 ad s σ) (hx : xG cI cZ cJ cB X O bnd mkr g s' (fun q => kpt s' q - 1) (fun _ => 0) σ1) (hF : xF O σ σ1) (h2 : mR cI cZ cJ m0 ad σ1 s2 σ2) (e : seq s2 s') (h3 : IV s2) : LWd cI cZ cJ cB X O m0 ad s2 σ2 := by
  have hr := h.1.fr h.2.2.1 hF.1
  exact ⟨h2.1, (xR.sq ⟨bnd, mkr, g, hx⟩ e).mfr hr.2 h2.2, hr.2, h3⟩
end LWS
