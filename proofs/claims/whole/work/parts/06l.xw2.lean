/-! more writes -/
def xP (cI cZ cJ cB : ClassId) (X : Nat → Nat) (O : Nat → Prop) (σ : zh) (s' : St) (σ' : zh) : Prop := ∃ (X' : Nat → Nat) (O' : Nat → Prop), X' 0 = X 0 ∧ X' 9 = X 9 ∧ X' 10 = X 10 ∧ X' 11 = X 11 ∧ xR cI cZ cJ cB X' O' s' σ' ∧ xfr O O' σ σ'
section XL
variable {cI cZ cJ cB : ClassId} {X : Nat → Nat} {O : Nat → Prop} {bnd mkr : Nat → Option Nat} {g : Nat → Nat → Int} {σ : zh} {s : St} {kp wk : Nat → Int}
theorem xP.of {s' : St} {σ' : zh} {bnd' mkr' : Nat → Option Nat} {g' : Nat → Nat → Int} (h : xG cI cZ cJ cB X O bnd' mkr' g' s' (fun q => kpt s' q - 1) (fun _ => 0) σ') (hf : xfr O O σ σ') : xP cI cZ cJ cB X O σ s' σ' := ⟨X, O, rfl, rfl, rfl, rfl, ⟨bnd', mkr', g', h⟩, hf⟩
theorem NDk.mono {O' : Nat → Prop} {σ' : zh} {nd ka la : Nat} {sz : Int} {kf zf : Nat → Int} (h : NDk cI cZ O σ nd ka la sz kf zf) (hO : ∀ a, O a → O' a) (h1 : σ' nd = σ nd) (h2 : σ' ka = σ ka) (h3 : σ' la = σ la) : NDk cI cZ O' σ' nd ka la sz kf zf := by
  obtain ⟨k1, k2, k3, k4, k5⟩ := h
  exact ⟨⟨hO _ k1.1, hO _ k1.2.1, hO _ k1.2.2⟩, by rw [h1]; exact k2, by rw [h2]; exact k3, by rw [h3]; exact k4, k5⟩
/-- the own cells are all that counts -/
theorem xG.fr {O' : Nat → Prop} {σ' : zh} (hx : xG cI cZ cJ cB X O bnd mkr g s kp wk σ) (hO' : ∀ a, O a → O' a) (h : ∀ a, O a → σ' a = σ a) : xG cI cZ cJ cB X O' bnd mkr g s kp wk σ' := by
  obtain ⟨hO, hX, h1, h2, h3, h4, h5, hB, hBf, hbn, hmk, hvl, hwk, hkp, hk⟩ := hx
  have tN : ∀ {nd ka la : Nat} {sz : Int} {kf zf : Nat → Int}, NDk cI cZ O σ nd ka la sz kf zf → NDk cI cZ O' σ' nd ka la sz kf zf := fun n => n.mono hO' (h _ n.1.1) (h _ n.1.2.1) (h _ n.1.2.2)
  have tB : ∀ {b kd : Nat} {inj key con sc kept iw sz : Int} {kf zf : Nat → Int}, BB cI cZ X O σ b kd inj key con sc kept iw sz kf zf → BB cI cZ X O' σ' b kd inj key con sc kept iw sz kf zf := fun ⟨q1, nd, ka, la, q2, q3, q4⟩ => ⟨hO' _ q1, nd, ka, la, by rw [h _ q1]; exact q2, tN q3, q4⟩
  refine ⟨⟨hO' _ hO.1, hO' _ hO.2.1, hO' _ hO.2.2.1, hO' _ hO.2.2.2.1, hO' _ hO.2.2.2.2.1, hO' _ hO.2.2.2.2.2⟩, by rw [h _ hO.1]; exact hX, by rw [h _ hO.2.1]; exact h1, by rw [h _ hO.2.2.1]; exact h2, by rw [h _ hO.2.2.2.1]; exact h3, by rw [h _ hO.2.2.2.2.1]; exact h4, by rw [h _ hO.2.2.2.2.2]; exact h5, ⟨tN hB.1, hB.2⟩, hBf, fun p hp => ?_, fun i hi => ?_, hvl, hwk, hkp, hk⟩
  · rcases hbn p hp with z | ⟨a, kd, con, sc, sz, kf, zf, z1, z2, z3⟩
    · exact Or.inl z
    · exact Or.inr ⟨a, kd, con, sc, sz, kf, zf, z1, tB z2, z3⟩
  · obtain ⟨a, kd, con, kept, iw, kf, zf, z1, z2, z3⟩ := hmk i hi
    exact ⟨a, kd, con, kept, iw, kf, zf, z1, tB z2, z3⟩
/-- the buffer is written anew -/
theorem xG.buf {σ' : zh} {s' : St} {kf zf : Nat → Int} (hx : xG cI cZ cJ cB X O bnd mkr g s kp wk σ) (h6 : σ' (X 6) = some (ob 1 [.ref (X 7), .ref (X 8), iv (s' 4 0)])) (h7 : σ' (X 7) = some (ia cI 4 kf)) (h8 : σ' (X 8) = some (ia cZ 4 zf)) (hu : ∀ b, b ≠ X 6 → b ≠ X 7 → b ≠ X 8 → σ' b = σ b) (hs : ∀ f, f ≠ 2 → f ≠ 3 → f ≠ 4 → s' f = s f) (hsz : 0 ≤ s' 4 0 ∧ s' 4 0 ≤ 4) (hkf : ∀ j, 0 ≤ kf j ∧ kf j ≤ 11) (hzf : ∀ j, zf j = 0 ∨ zf j = 1) (hq : ∀ j : Nat, (j : Int) < s' 4 0 → kf j = s' 2 j ∧ zf j = s' 3 j) : xG cI cZ cJ cB X O bnd mkr (srow (srow g 2 kf) 3 zf) s' kp wk σ' := by
  obtain ⟨hO, hX, h1, h2, h3, h4, h5, hB, hBf, hbn, hmk, hvl, hwk, hkp, hk⟩ := hx
  obtain ⟨⟨b1, b2, b3, b4, -⟩, b6⟩ := hB
  have main : ∀ (b : Nat) (e : va_E), σ b = some e → (∀ fs, e ≠ ob 1 fs) → (∀ f, e ≠ ia cI 4 f) → (∀ f, e ≠ ia cZ 4 f) → σ' b = some e := fun b e hb q1 q2 q3 => by
    rw [hu b (fun z => ?_) (fun z => ?_) (fun z => ?_)]
    · exact hb
    · rw [z, b2] at hb; exact q1 _ (Option.some.inj hb).symm
    · rw [z, b3] at hb; exact q2 _ (Option.some.inj hb).symm
    · rw [z, b4] at hb; exact q3 _ (Option.some.inj hb).symm
  have tB : ∀ {b kd : Nat} {inj key con sc kept iw sz : Int} {kf zf : Nat → Int}, BB cI cZ X O σ b kd inj key con sc kept iw sz kf zf → BB cI cZ X O σ' b kd inj key con sc kept iw sz kf zf := fun {b kd inj key con sc kept iw sz kf zf} ⟨q1, nd, ka, la, q2, q3, q4⟩ => by
    obtain ⟨c1, c2, c3, c4, c5⟩ := q3
    refine ⟨q1, nd, ka, la, main _ _ q2 (fun _ h => (by cases h)) (fun _ h => (by cases h)) (fun _ h => (by cases h)), ⟨c1, ?_, ?_, ?_, c5⟩, q4⟩
    · rw [hu nd q4.1 (fun z => (by rw [z, b3] at c2; cases c2)) (fun z => (by rw [z, b4] at c2; cases c2))]; exact c2
    · rw [hu ka (fun z => (by rw [z, b2] at c3; cases c3)) q4.2.1 q4.2.2.1]; exact c3
    · rw [hu la (fun z => (by rw [z, b2] at c4; cases c4)) q4.2.2.2.1 q4.2.2.2.2]; exact c4
  have e : ∀ f, f ≠ 2 → f ≠ 3 → f ≠ 4 → s' f = s f := hs
  refine ⟨hO, ?_, ?_, main _ _ h2 (fun _ h => (by cases h)) (fun _ h => (by cases h)) (fun _ h => (by cases h)), main _ _ h3 (fun _ h => (by cases h)) (fun _ h => (by cases h)) (fun _ h => (by cases h)), main _ _ h4 (fun _ h => (by cases h)) (fun _ h => (by cases h)) (fun _ h => (by cases h)), main _ _ h5 (fun _ h => (by cases h)) (fun _ h => (by cases h)) (fun _ h => (by cases h)), ⟨⟨b1, h6, h7, h8, hsz, hkf, hzf⟩, b6⟩, hq, fun p hp => ?_, fun i hi => ?_, fun i j hi hj => ?_, hwk, hkp, hk⟩
  · rw [main _ _ hX (fun _ h => (by cases h)) (fun _ h => (by cases h)) (fun _ h => (by cases h))]
    unfold xfs
    rw [e 1 (by decide) (by decide) (by decide), e 23 (by decide) (by decide) (by decide), e 15 (by decide) (by decide) (by decide)]
  · rw [e 0 (by decide) (by decide) (by decide)]
    exact main _ _ h1 (fun _ h => (by cases h)) (fun _ h => (by cases h)) (fun _ h => (by cases h))
  · unfold xB BK
    rw [e 5 (by decide) (by decide) (by decide), e 6 (by decide) (by decide) (by decide), e 7 (by decide) (by decide) (by decide), e 8 (by decide) (by decide) (by decide), e 9 (by decide) (by decide) (by decide), e 10 (by decide) (by decide) (by decide)]
    rcases hbn p hp with z | ⟨a, kd, con, sc, sz, kf, zf, z1, z2, z3⟩
    · exact Or.inl z
    · exact Or.inr ⟨a, kd, con, sc, sz, kf, zf, z1, tB z2, z3⟩
  · rw [e 23 (by decide) (by decide) (by decide)] at hi
    obtain ⟨a, kd, con, kept, iw, kf, zf, z1, z2, z3⟩ := hmk i hi
    unfold xMk
    rw [e 16 (by decide) (by decide) (by decide), e 17 (by decide) (by decide) (by decide), e 18 (by decide) (by decide) (by decide), e 19 (by decide) (by decide) (by decide), e 20 (by decide) (by decide) (by decide), e 21 (by decide) (by decide) (by decide)]
    exact ⟨a, kd, con, kept, iw, kf, zf, z1, tB z2, z3⟩
  · rw [e 23 (by decide) (by decide) (by decide)] at hi
    rw [e 19 (by decide) (by decide) (by decide)] at hj
    rw [e 22 (by decide) (by decide) (by decide)]
    exact hvl i j hi hj
/-- a pair's binding is put or taken: the others stay -/
theorem xG.bnw {s' : St} {kp' : Nat → Int} {p : Nat} {x : Option Nat} (hp : p < 36) (hx : xG cI cZ cJ cB X O bnd mkr g s kp wk σ) (hs : ∀ f, f < 5 ∨ f = 15 ∨ (16 ≤ f ∧ f ≤ 23) → s' f = s f) (hn : ∀ q, q < 36 → q ≠ p → s' 5 q = s 5 q ∧ s' 6 q = s 6 q ∧ s' 7 q = s 7 q ∧ s' 8 q = s 8 q ∧ (∀ j, j < 4 → s' 9 (4 * q + j) = s 9 (4 * q + j) ∧ s' 10 (4 * q + j) = s 10 (4 * q + j)) ∧ kp' q = kp q) (hr : ∀ q, -1 ≤ kp' q ∧ kp' q ≤ 200) (hnew : xB cI cZ X O (va_up bnd p x) s' kp' wk (zput σ (X 2) (ra cB 36 (va_up bnd p x))) p) : xG cI cZ cJ cB X O (va_up bnd p x) mkr g s' kp' wk (zput σ (X 2) (ra cB 36 (va_up bnd p x))) := by
  obtain ⟨hO, hX, h1, h2, h3, h4, h5, hB, hBf, hbn, hmk, hvl, hwk, hkp, hk⟩ := hx
  have e := hs
  refine ⟨hO, ?_, ?_, zput_s _ _ _, zput_o h2 h3 (by intro h; cases h), zput_o h2 h4 (by intro h; cases h), zput_o h2 h5 (by intro h; cases h), ?_, ?_, fun q hq => ?_, fun i hi => ?_, fun i j hi hj => ?_, hwk, hr, hk⟩
  · rw [zput_o h2 hX (by intro h; cases h)]
    unfold xfs
    rw [e 1 (by omega), e 23 (by omega), e 15 (by omega)]
  · rw [e 0 (by omega)]; exact zput_o h2 h1 (by intro h; cases h)
  · rw [e 4 (by omega)]; exact ⟨hB.1.off h2 xoff_ra, hB.2⟩
  · rw [e 4 (by omega), e 2 (by omega), e 3 (by omega)]; exact hBf
  · by_cases c : q = p
    · rw [c]; exact hnew
    · obtain ⟨n1, n2, n3, n4, n5, n6⟩ := hn q hq c
      have eb : va_up bnd p x q = bnd q := by simp [va_up, c]
      rcases hbn q hq with z | ⟨a, kd, con, sc, sz, kf, zf, z1, z2, z3⟩
      · exact Or.inl ⟨by rw [eb]; exact z.1, by rw [n1]; exact z.2⟩
      · refine Or.inr ⟨a, kd, con, sc, sz, kf, zf, by rw [eb]; exact z1, by rw [n6]; exact z2.off h2 xoff_ra, ?_⟩
        have hsz : sz ≤ 4 := by
          obtain ⟨nd, ka, la, -, n⟩ := z2.rec
          exact n.2.2.2.2.1.2
        unfold BK at z3 ⊢
        rw [n1, n2, n3, n4]
        rcases z3 with z3 | z3 | z3
        · exact Or.inl z3
        · exact Or.inr (Or.inl z3)
        · refine Or.inr (Or.inr ⟨z3.1, z3.2.1, z3.2.2.1, z3.2.2.2.1, fun j hj => ?_⟩)
          rw [(n5 j (by omega)).1, (n5 j (by omega)).2]
          exact z3.2.2.2.2 j hj
  · rw [e 23 (by omega)] at hi
    have z := (hmk i hi).off (e := ra cB 36 (va_up bnd p x)) h2 xoff_ra
    unfold xMk at z ⊢
    rw [e 16 (by omega), e 17 (by omega), e 18 (by omega), e 19 (by omega), e 20 (by omega), e 21 (by omega)]
    exact z
  · rw [e 23 (by omega)] at hi
    rw [e 19 (by omega)] at hj
    rw [e 22 (by omega)]
    exact hvl i j hi hj
end XL
