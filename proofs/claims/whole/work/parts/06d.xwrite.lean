/-! writes in the class's world -/
theorem ob_inj {c c' : Nat} {l l' : List Value} (h : (some (ob c l) : Option va_E) = some (ob c' l')) : c = c' ∧ l = l' := by
  have h1 := Option.some.inj h
  injection h1 with h2
  exact ⟨(Prod.mk.inj h2).1, (Prod.mk.inj h2).2⟩
theorem iv_inj {a b : Int} (ha : -2147483648 ≤ a ∧ a ≤ 2147483647) (hb : -2147483648 ≤ b ∧ b ≤ 2147483647) (h : iv a = iv b) : a = b := by
  injection h with h
  exact (z32_eq ha hb).mp h
theorem BB.wr_eq {cI cZ : ClassId} {X : Nat → Nat} {O : Nat → Prop} {σ : zh} {a kd' kd nd : Nat} {inj' key' con' sc' kept' iw' sz : Int} {kf zf : Nat → Int} {v1 v2 v3 v4 v6 v7 : Value} (h : BB cI cZ X O σ a kd' inj' key' con' sc' kept' iw' sz kf zf) (ha : σ a = some (ob 0 [.ref kd, v1, v2, v3, v4, .ref nd, v6, v7])) (v w : Int) : BB cI cZ X O (zput σ a (ob 0 [.ref kd, v1, v2, v3, v4, .ref nd, iv v, iv w])) a kd' inj' key' con' sc' v w sz kf zf := by
  obtain ⟨h1, nd', ka, la, h2, h3, h4⟩ := h
  have e := (ob_inj (h2.symm.trans ha)).2
  simp only [List.cons.injEq, and_true] at e
  obtain ⟨e1, e2, e3, e4, e5, e6, -, -⟩ := e
  refine ⟨h1, nd', ka, la, ?_, h3.keep (fun z => ?_) (fun z => ?_) (fun z => ?_), h4⟩
  · rw [zput_s, e1, e2, e3, e4, e5, e6]
  · have := h3.2.1; rw [z, ha] at this; exact absurd (ob_inj this).1 (by decide)
  · have := h3.2.2.1; rw [z, ha] at this; cases this
  · have := h3.2.2.2.1; rw [z, ha] at this; cases this
theorem BB.wr_ne {cI cZ : ClassId} {X : Nat → Nat} {O : Nat → Prop} {σ : zh} {a b kd' : Nat} {inj' key' con' sc' kept' iw' sz : Int} {kf zf : Nat → Int} {fs : List Value} {e : va_E} (h : BB cI cZ X O σ b kd' inj' key' con' sc' kept' iw' sz kf zf) (ha : σ a = some (ob 0 fs)) (hne : b ≠ a) : BB cI cZ X O (zput σ a e) b kd' inj' key' con' sc' kept' iw' sz kf zf := by
  obtain ⟨h1, nd', ka, la, h2, h3, h4⟩ := h
  refine ⟨h1, nd', ka, la, by rw [zput_n hne]; exact h2, h3.keep (fun z => ?_) (fun z => ?_) (fun z => ?_), h4⟩
  · have := h3.2.1; rw [z, ha] at this; exact absurd (ob_inj this).1 (by decide)
  · have := h3.2.2.1; rw [z, ha] at this; cases this
  · have := h3.2.2.2.1; rw [z, ha] at this; cases this
theorem BB.rec {cI cZ : ClassId} {X : Nat → Nat} {O : Nat → Prop} {σ : zh} {a kd : Nat} {inj key con sc kept iw sz : Int} {kf zf : Nat → Int} (h : BB cI cZ X O σ a kd inj key con sc kept iw sz kf zf) : ∃ nd ka la, σ a = some (ob 0 [.ref kd, iv inj, iv key, iv con, iv sc, .ref nd, iv kept, iv iw]) ∧ NDk cI cZ O σ nd ka la sz kf zf := by
  obtain ⟨h1, nd', ka, la, h2, h3, h4⟩ := h
  exact ⟨nd', ka, la, h2, h3⟩
section XW
variable {cI cZ cJ cB : ClassId} {X : Nat → Nat} {O : Nat → Prop} {bnd mkr : Nat → Option Nat} {g : Nat → Nat → Int} {σ : zh} {s : St} {kp wk : Nat → Int}
/-- different pairs, different bindings -/
theorem xB.dis {σ : zh} {p q a b kd kd' : Nat} {con sc kept iw sz con' sc' kept' iw' sz' : Int} {kf zf kf' zf' : Nat → Int} (hp : p < 36) (hq : q < 36) (h : BB cI cZ X O σ a kd ((p / 12 : Nat) : Int) ((p % 12 : Nat) : Int) con sc kept iw sz kf zf) (h' : BB cI cZ X O σ b kd' ((q / 12 : Nat) : Int) ((q % 12 : Nat) : Int) con' sc' kept' iw' sz' kf' zf') (e : a = b) : p = q := by
  subst e
  obtain ⟨nd, ka, la, h2, -⟩ := h.rec
  obtain ⟨nd', ka', la', h2', -⟩ := h'.rec
  have e := (ob_inj (h2.symm.trans h2')).2
  simp only [List.cons.injEq, and_true] at e
  have e1 := iv_inj (by omega) (by omega) e.2.1
  have e2 := iv_inj (by omega) (by omega) e.2.2.1
  omega
/-- kept and inWork of one binding -/
theorem xG.bw (hx : xG cI cZ cJ cB X O bnd mkr g s kp wk σ) {p a kd nd : Nat} {v1 v2 v3 v4 v6 v7 : Value} (hp : p < 36) (hb : bnd p = some a) (ha : σ a = some (ob 0 [.ref kd, v1, v2, v3, v4, .ref nd, v6, v7])) (v w : Int) (hv : -1 ≤ v ∧ v ≤ 200) (hw : w = 0 ∨ w = 1) : xG cI cZ cJ cB X O bnd mkr g s (iup kp p v) (iup wk p w) (zput σ a (ob 0 [.ref kd, v1, v2, v3, v4, .ref nd, iv v, iv w])) := by
  obtain ⟨hO, hX, h1, h2, h3, h4, h5, hB, hBf, hbn, hmk, hvl, hwk, hkp, hk⟩ := hx
  refine ⟨hO, zput_o ha hX (by intro h; cases h), zput_o ha h1 (by intro h; cases h), zput_o ha h2 (by intro h; cases h), zput_o ha h3 (by intro h; cases h), zput_o ha h4 (by intro h; cases h), zput_o ha h5 (by intro h; cases h), ⟨hB.1.keep (fun z => ?_) (fun z => ?_) (fun z => ?_), hB.2⟩, hBf, fun q hq => ?_, fun i hi => ?_, hvl, fun q => ?_, fun q => ?_, hk⟩
  · have := hB.1.2.1; rw [z, ha] at this; exact absurd (ob_inj this).1 (by decide)
  · have := hB.1.2.2.1; rw [z, ha] at this; cases this
  · have := hB.1.2.2.2.1; rw [z, ha] at this; cases this
  · rcases hbn q hq with z | ⟨b, kd', con, sc, sz, kf, zf, z1, z2, z3⟩
    · exact Or.inl z
    · refine Or.inr ⟨b, kd', con, sc, sz, kf, zf, z1, ?_, z3⟩
      by_cases e : q = p
      · subst e
        rw [hb] at z1
        cases z1
        rw [iup_s, iup_s]
        exact z2.wr_eq ha v w
      · rw [iup_n e, iup_n e]
        rcases hbn p hp with y | ⟨b', kd2, con2, sc2, sz2, kf2, zf2, y1, y2, y3⟩
        · rw [hb] at y; cases y.1
        · rw [hb] at y1
          cases y1
          exact z2.wr_ne ha (fun ee => e (xB.dis hq hp z2 y2 ee))
  · obtain ⟨b, kd', con, kept, iw, kf, zf, z1, z2, z3⟩ := hmk i hi
    by_cases e : b = a
    · subst e
      exact ⟨b, kd', con, v, w, kf, zf, z1, z2.wr_eq ha v w, z3⟩
    · exact ⟨b, kd', con, kept, iw, kf, zf, z1, z2.wr_ne ha e, z3⟩
  · by_cases e : q = p
    · rw [e, iup_s]; exact hw
    · rw [iup_n e]; exact hwk q
  · by_cases e : q = p
    · rw [e, iup_s]; exact hv
    · rw [iup_n e]; exact hkp q
/-- a write of a cell that is none of the bindings', with what is asked of the six own cells -/
theorem xG.tl (hx : xG cI cZ cJ cB X O bnd mkr g s kp wk σ) {b : Nat} {e e0 : va_E} (hb : σ b = some e0) (ho : xoff cI cZ e0) : NDk cI cZ O (zput σ b e) (X 6) (X 7) (X 8) (s 4 0) (g 2) (g 3) ∧ (∀ p, p < 36 → xB cI cZ X O bnd s kp wk (zput σ b e) p) ∧ ∀ i : Nat, (i : Int) < s 23 0 → xMk cI cZ X O mkr s (zput σ b e) i := by
  obtain ⟨hO, hX, h1, h2, h3, h4, h5, hB, hBf, hbn, hmk, hvl, hwk, hkp, hk⟩ := hx
  exact ⟨hB.1.off hb ho, fun p hp => (hbn p hp).off hb ho, fun i hi => (hmk i hi).off hb ho⟩
theorem xG.gw (hx : xG cI cZ cJ cB X O bnd mkr g s kp wk σ) (f : Nat → Int) : xG cI cZ cJ cB X O bnd mkr (srow g 1 f) s kp wk (zput σ (X 5) (la cJ 144 f)) := by
  obtain ⟨t1, t2, t3⟩ := hx.tl (e := la cJ 144 f) hx.2.2.2.2.2.2.1 xoff_la
  obtain ⟨hO, hX, h1, h2, h3, h4, h5, hB, hBf, hbn, hmk, hvl, hwk, hkp, hk⟩ := hx
  exact ⟨hO, zput_o h5 hX (by intro h; cases h), zput_o h5 h1 (by intro h; cases h), zput_o h5 h2 (by intro h; cases h), zput_o h5 h3 (by intro h; cases h), zput_o h5 h4 (by intro h; cases h), zput_s _ _ _, ⟨t1, hB.2⟩, hBf, t2, t3, hvl, hwk, hkp, hk⟩
theorem xG.p1 (hx : xG cI cZ cJ cB X O bnd mkr g s kp wk σ) (k : Nat) (v : Int) : xG cI cZ cJ cB X O bnd mkr g (sup s 0 k v) kp wk (zput σ (X 1) (ia cI 3 (iup (s 0) k v))) := by
  obtain ⟨t1, t2, t3⟩ := hx.tl (e := ia cI 3 (iup (s 0) k v)) hx.2.2.1 xoff_i3
  obtain ⟨hO, hX, h1, h2, h3, h4, h5, hB, hBf, hbn, hmk, hvl, hwk, hkp, hk⟩ := hx
  exact ⟨hO, zput_o h1 hX (by intro h; cases h), zput_s _ _ _, zput_o h1 h2 (by intro h; cases h), zput_o h1 h3 (by intro h; cases h), zput_o h1 h4 (by intro h; cases h), zput_o h1 h5 (by intro h; cases h), ⟨t1, hB.2⟩, hBf, t2, t3, hvl, hwk, hkp, hk⟩
/-- the object's own numbers -/
theorem xG.o1 (hx : xG cI cZ cJ cB X O bnd mkr g s kp wk σ) (v : Int) : xG cI cZ cJ cB X O bnd mkr g (sup s 1 0 v) kp wk (zput σ (X 0) (ob 2 (xfs X (sup s 1 0 v)))) := by
  obtain ⟨t1, t2, t3⟩ := hx.tl (e := ob 2 (xfs X (sup s 1 0 v))) hx.2.1 xoff_o2
  obtain ⟨hO, hX, h1, h2, h3, h4, h5, hB, hBf, hbn, hmk, hvl, hwk, hkp, hk⟩ := hx
  exact ⟨hO, zput_s _ _ _, zput_o hX h1 (by intro h; cases h), zput_o hX h2 (by intro h; cases h), zput_o hX h3 (by intro h; cases h), zput_o hX h4 (by intro h; cases h), zput_o hX h5 (by intro h; cases h), ⟨t1, hB.2⟩, hBf, t2, t3, hvl, hwk, hkp, hk⟩
theorem xG.o15 (hx : xG cI cZ cJ cB X O bnd mkr g s kp wk σ) (v : Int) : xG cI cZ cJ cB X O bnd mkr g (sup s 15 0 v) kp wk (zput σ (X 0) (ob 2 (xfs X (sup s 15 0 v)))) := by
  obtain ⟨t1, t2, t3⟩ := hx.tl (e := ob 2 (xfs X (sup s 15 0 v))) hx.2.1 xoff_o2
  obtain ⟨hO, hX, h1, h2, h3, h4, h5, hB, hBf, hbn, hmk, hvl, hwk, hkp, hk⟩ := hx
  exact ⟨hO, zput_s _ _ _, zput_o hX h1 (by intro h; cases h), zput_o hX h2 (by intro h; cases h), zput_o hX h3 (by intro h; cases h), zput_o hX h4 (by intro h; cases h), zput_o hX h5 (by intro h; cases h), ⟨t1, hB.2⟩, hBf, t2, t3, hvl, hwk, hkp, hk⟩
/-- fewer instances -/
theorem xG.o23 (hx : xG cI cZ cJ cB X O bnd mkr g s kp wk σ) (v : Int) (hv : v ≤ s 23 0) : xG cI cZ cJ cB X O bnd mkr g (sup s 23 0 v) kp wk (zput σ (X 0) (ob 2 (xfs X (sup s 23 0 v)))) := by
  obtain ⟨t1, t2, t3⟩ := hx.tl (e := ob 2 (xfs X (sup s 23 0 v))) hx.2.1 xoff_o2
  obtain ⟨hO, hX, h1, h2, h3, h4, h5, hB, hBf, hbn, hmk, hvl, hwk, hkp, hk⟩ := hx
  have e : sup s 23 0 v 23 0 = v := iup_s (s 23) 0 v
  exact ⟨hO, zput_s _ _ _, zput_o hX h1 (by intro h; cases h), zput_o hX h2 (by intro h; cases h), zput_o hX h3 (by intro h; cases h), zput_o hX h4 (by intro h; cases h), zput_o hX h5 (by intro h; cases h), ⟨t1, hB.2⟩, hBf, t2, fun i hi => t3 i (by omega), fun i j hi hj => hvl i j (by omega) hj, hwk, hkp, hk⟩
/-- nothing of a state that no call shows matters -/
theorem xG.sq {s' : St} (hx : xG cI cZ cJ cB X O bnd mkr g s kp wk σ) (h : seq s' s) : xG cI cZ cJ cB X O bnd mkr g s' kp wk σ := by
  obtain ⟨hO, hX, h1, h2, h3, h4, h5, hB, hBf, hbn, hmk, hvl, hwk, hkp, hk⟩ := hx
  obtain ⟨q1, q2, q3⟩ := h
  have e := fun f hf => q1 f hf
  have hmd : s' 23 0 = s 23 0 := congrFun (e 23 rfl) 0
  refine ⟨hO, ?_, by rw [e 0 rfl]; exact h1, h2, h3, h4, h5, by rw [e 4 rfl]; exact hB, ?_, fun p hp => ?_, fun i hi => ?_, fun i j hi hj => ?_, hwk, hkp, hk⟩
  · rw [hX]
    unfold xfs
    rw [e 1 rfl, e 23 rfl, e 15 rfl]
  · rw [e 4 rfl, e 2 rfl, e 3 rfl]; exact hBf
  · have z := hbn p hp
    unfold xB BK at z ⊢
    rw [e 5 rfl, e 6 rfl, e 7 rfl, e 8 rfl, e 9 rfl, e 10 rfl]
    exact z
  · have hi' : (i : Int) < s 23 0 := by omega
    obtain ⟨a, kd, con, kept, iw, kf, zf, z1, z2, z3⟩ := hmk i hi'
    have w := q2 i hi'
    refine ⟨a, kd, con, kept, iw, kf, zf, z1, by rw [w.1, w.2.1, w.2.2.1, w.2.2.2]; exact z2, fun j hj => ?_⟩
    rw [w.2.2.2] at hj
    have hsz : s 19 i ≤ 4 := by
      obtain ⟨nd, ka, la, -, n⟩ := z2.rec
      exact n.2.2.2.2.1.2
    have w2 := q3 (4 * i + j) (by omega)
    rw [w2.1, w2.2.1]
    exact z3 j hj
  · have hi' : (i : Int) < s 23 0 := by omega
    have w := q2 i hi'
    rw [w.2.2.2] at hj
    have hsz : s 19 i ≤ 4 := by
      obtain ⟨a, kd, con, kept, iw, kf, zf, z1, z2, z3⟩ := hmk i hi'
      obtain ⟨nd, ka, la, -, n⟩ := z2.rec
      exact n.2.2.2.2.1.2
    rw [(q3 (4 * i + j) (by omega)).2.2]
    exact hvl i j hi' hj
end XW
/-- what no getting changes: needs and their arrays, a binding's first six fields -/
def xim (σ σ' : zh) : Prop := (∀ b fs, σ b = some (ob 1 fs) → σ' b = some (ob 1 fs)) ∧ (∀ b c f, σ b = some (ia c 4 f) → σ' b = some (ia c 4 f)) ∧ ∀ b v0 v1 v2 v3 v4 v5 v6 v7, σ b = some (ob 0 [v0, v1, v2, v3, v4, v5, v6, v7]) → ∃ w6 w7, σ' b = some (ob 0 [v0, v1, v2, v3, v4, v5, w6, w7])
def xF (O : Nat → Prop) (σ σ' : zh) : Prop := xfr O O σ σ' ∧ xim σ σ'
theorem xF.rf {O : Nat → Prop} {σ : zh} : xF O σ σ := ⟨xfr.rf, fun _ _ h => h, fun _ _ _ h => h, fun _ _ _ _ _ _ _ v6 v7 h => ⟨v6, v7, h⟩⟩
theorem xF.tr {O : Nat → Prop} {σ σ' σ'' : zh} (h : xF O σ σ') (k : xF O σ' σ'') : xF O σ σ'' := ⟨h.1.tr k.1, fun b fs e => k.2.1 b fs (h.2.1 b fs e), fun b c f e => k.2.2.1 b c f (h.2.2.1 b c f e), fun b v0 v1 v2 v3 v4 v5 v6 v7 e => by
  obtain ⟨w6, w7, e2⟩ := h.2.2.2 b v0 v1 v2 v3 v4 v5 v6 v7 e
  exact k.2.2.2 b v0 v1 v2 v3 v4 v5 w6 w7 e2⟩
theorem xF.off {O : Nat → Prop} {σ : zh} {b : Nat} {e e0 : va_E} (hO : O b) (hb : σ b = some e0) (h0 : ∀ fs, e0 ≠ ob 0 fs) (h1 : ∀ fs, e0 ≠ ob 1 fs) (h2 : ∀ c f, e0 ≠ ia c 4 f) : xF O σ (zput σ b e) :=
  ⟨xfr.put hO, fun c fs h => zput_o hb h (h1 _), fun c d f h => zput_o hb h (h2 _ _), fun c v0 v1 v2 v3 v4 v5 v6 v7 h => ⟨v6, v7, zput_o hb h (h0 _)⟩⟩
theorem xF.bd {O : Nat → Prop} {σ : zh} {a : Nat} {v0 v1 v2 v3 v4 v5 v6 v7 w6 w7 : Value} (hO : O a) (ha : σ a = some (ob 0 [v0, v1, v2, v3, v4, v5, v6, v7])) : xF O σ (zput σ a (ob 0 [v0, v1, v2, v3, v4, v5, w6, w7])) := by
  refine ⟨xfr.put hO, fun c fs h => zput_o ha h (by intro z; cases z), fun c d f h => zput_o ha h (by intro z; cases z), fun c u0 u1 u2 u3 u4 u5 u6 u7 h => ?_⟩
  by_cases e : c = a
  · subst e
    have q := (ob_inj (h.symm.trans ha)).2
    simp only [List.cons.injEq, and_true] at q
    obtain ⟨q0, q1, q2, q3, q4, q5, -, -⟩ := q
    exact ⟨w6, w7, by rw [zput_s, q0, q1, q2, q3, q4, q5]⟩
  · exact ⟨u6, u7, by rw [zput_n e]; exact h⟩
section XWR
variable {K : zC} {D : va_G} {A : Nat → Prop} {cI cZ cJ cB : ClassId} {X : Nat → Nat} {O : Nat → Prop} {bnd mkr : Nat → Option Nat} {g : Nat → Nat → Int} {σ : zh} {s : St} {kp wk : Nat → Int} {rm : Room} {cc : ByteArray} {nm : String} {nL : Nat} {ret : Option FieldType} {Q : State → Prop} {cells slots pc : Nat} {lv : List (Option Value)} {st : List Value}
theorem x_kept (C : zCx K D vwCl A (ztys cI cZ cJ cB) (zF A X) rm cc "InjectorTree" nm zw nL ret) (hx : xG cI cZ cJ cB X O bnd mkr g s kp wk σ) {p a kd nd : Nat} {v1 v2 v3 v4 v6 : Value} {w0 v : Int} (hp : p < 36) (hb : bnd p = some a) (ha : σ a = some (ob 0 [.ref kd, v1, v2, v3, v4, .ref nd, v6, iv w0])) (hv : -1 ≤ v ∧ v ≤ 200) (hw : w0 = wk p) (hO : O a) (hd : decode cc pc = .ok (.putfield 91, 3))
    (kk : ∀ σ' : zh, xG cI cZ cJ cB X O bnd mkr g s (iup kp p v) wk σ' → xF O σ σ' → zJ K D vwCl A nL Q cells slots σ' (pc + 3) lv st) : zJ K D vwCl A nL Q cells slots σ pc lv (iv v :: .ref a :: st) := by
  refine z_putN C in_B t_B tk_B nm_B ha rfl 6 (by decide) nl_91 rfl rfl (tk_B 6 (by decide)) rfl rfl (Nat.le_of_ble_eq_true rfl) hd ?_
  have h := hx.bw hp hb ha v w0 hv (by rw [hw]; exact hx.2.2.2.2.2.2.2.2.2.2.2.2.1 p)
  rw [show iup wk p w0 = wk from by funext q; by_cases e : q = p; rw [e, iup_s, hw]; rw [iup_n e]] at h
  exact kk _ h (xF.bd hO ha)
theorem x_inw (C : zCx K D vwCl A (ztys cI cZ cJ cB) (zF A X) rm cc "InjectorTree" nm zw nL ret) (hx : xG cI cZ cJ cB X O bnd mkr g s kp wk σ) {p a kd nd : Nat} {v1 v2 v3 v4 v7 : Value} {k0 w : Int} (hp : p < 36) (hb : bnd p = some a) (ha : σ a = some (ob 0 [.ref kd, v1, v2, v3, v4, .ref nd, iv k0, v7])) (hw : w = 0 ∨ w = 1) (hk : k0 = kp p) (hO : O a) (hd : decode cc pc = .ok (.putfield 172, 3))
    (kk : ∀ σ' : zh, xG cI cZ cJ cB X O bnd mkr g s kp (iup wk p w) σ' → xF O σ σ' → zJ K D vwCl A nL Q cells slots σ' (pc + 3) lv st) : zJ K D vwCl A nL Q cells slots σ pc lv (iv w :: .ref a :: st) := by
  refine z_putN C in_B t_B tk_B nm_B ha rfl 7 (by decide) nl_172 rfl rfl (tk_B 7 (by decide)) (znarz hw) (zfitz hw) (Nat.le_of_ble_eq_true rfl) hd ?_
  have h := hx.bw hp hb ha k0 w (by rw [hk]; exact hx.2.2.2.2.2.2.2.2.2.2.2.2.2.1 p) hw
  rw [show iup kp p k0 = kp from by funext q; by_cases e : q = p; rw [e, iup_s, hk]; rw [iup_n e]] at h
  exact kk _ h (xF.bd hO ha)
theorem x_gath (C : zCx K D vwCl A (ztys cI cZ cJ cB) (zF A X) rm cc "InjectorTree" nm zw nL ret) (hx : xG cI cZ cJ cB X O bnd mkr g s kp wk σ) {i v : Int} (k : Nat) (hk : i = (k : Int)) (hn : k < 144) (hd : decode cc pc = .ok (.lastore, 1))
    (kk : ∀ σ' : zh, xG cI cZ cJ cB X O bnd mkr (sup g 1 k v) s kp wk σ' → xF O σ σ' → zJ K D vwCl A nL Q cells slots σ' (pc + 1) lv st) : zJ K D vwCl A nL Q cells slots σ pc lv (jv v :: iv i :: .ref (X 5) :: st) := by
  refine z_last C 2 rfl hx.2.2.2.2.2.2.1 k hk hn (by decide) hd ?_
  exact kk _ (hx.gw (iup (g 1) k v)) (xF.off hx.1.2.2.2.2.2 hx.2.2.2.2.2.2.1 (fun _ h => (by cases h)) (fun _ h => (by cases h)) (fun _ _ h => (by cases h)))
end XWR
