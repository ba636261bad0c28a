/-! a new instance -/
section XM
variable {cI cZ cJ cB : ClassId} {X : Nat → Nat} {O : Nat → Prop} {bnd mkr : Nat → Option Nat} {g : Nat → Nat → Int} {σ : zh} {s : St} {kp wk : Nat → Int}
theorem xG.mkn (hI : Inv s) (hx : xG cI cZ cJ cB X O bnd mkr g s kp wk σ) {p a : Nat} (hp : p < 36) (hb : bnd p = some a) (h5p : s 5 p = 3) (hm : s 23 0 < 100) (vs : Nat → Int) (hvs : ∀ j : Nat, (j : Int) < s 8 p → g 1 (4 * p + j) = vs j) : xG cI cZ cJ cB X O bnd (va_up mkr (s 23 0).toNat (some a)) (srow g 0 (va_cpy (g 1) (g 0) (4 * p) (4 * (s 23 0).toNat) 4)) (mk s p vs) kp wk (zput (zput (zput σ (X 0) (ob 2 (xfs X (mk s p vs)))) (X 3) (ra cB 100 (va_up mkr (s 23 0).toNat (some a)))) (X 4) (la cJ 400 (va_cpy (g 1) (g 0) (4 * p) (4 * (s 23 0).toNat) 4))) := by
  obtain ⟨hO, hX, h1, h2, h3, h4, h5, hB, hBf, hbn, hmk, hvl, hwk, hkp, hk⟩ := hx
  have hmd := hI.md
  have hnn := hI.nn p
  generalize eF : ob 2 (xfs X (mk s p vs)) = F0
  generalize eR : ra cB 100 (va_up mkr (s 23 0).toNat (some a)) = R0
  generalize eL : la cJ 400 (va_cpy (g 1) (g 0) (4 * p) (4 * (s 23 0).toNat) 4) = L0
  have f3 : zput σ (X 0) F0 (X 3) = some (ra cB 100 mkr) := zput_o hX h3 (by intro h; cases h)
  have f4 : zput σ (X 0) F0 (X 4) = some (la cJ 400 (g 0)) := zput_o hX h4 (by intro h; cases h)
  have g4 : zput (zput σ (X 0) F0) (X 3) R0 (X 4) = some (la cJ 400 (g 0)) := zput_o f3 f4 (by intro h; cases h)
  have main : ∀ (b : Nat) (e1 : va_E), σ b = some e1 → (∀ z, ob 2 z ≠ e1) → (∀ z, ra cB 100 z ≠ e1) → (∀ z, la cJ 400 z ≠ e1) → zput (zput (zput σ (X 0) F0) (X 3) R0) (X 4) L0 b = some e1 := fun b e1 hb1 q1 q2 q3 => zput_o g4 (zput_o f3 (zput_o hX hb1 (q1 _)) (q2 _)) (q3 _)
  have tB : ∀ {b kd : Nat} {inj key con sc kept iw sz : Int} {kf zf : Nat → Int}, BB cI cZ X O σ b kd inj key con sc kept iw sz kf zf → BB cI cZ X O (zput (zput (zput σ (X 0) F0) (X 3) R0) (X 4) L0) b kd inj key con sc kept iw sz kf zf := fun h => ((h.off hX xoff_o2).off f3 xoff_ra).off g4 xoff_la
  refine ⟨hO, ?_, main _ _ h1 (fun _ h => by cases h) (fun _ h => by cases h) (fun _ h => by cases h), main _ _ h2 (fun _ h => by cases h) (fun _ h => by cases h) (fun _ h => by cases h), ?_, ?_, main _ _ h5 (fun _ h => by cases h) (fun _ h => by cases h) (fun _ h => by cases h), ⟨((hB.1.off hX xoff_o2).off f3 xoff_ra).off g4 xoff_la, hB.2⟩, hBf, fun q hq => ?_, fun i hi => ?_, fun i j hi hj => ?_, hwk, hkp, hk⟩
  · have hF0 : zput σ (X 0) F0 (X 0) = some (ob 2 (xfs X (mk s p vs))) := by rw [zput_s, eF]
    exact zput_o g4 (zput_o f3 hF0 (by intro h; cases h)) (by intro h; cases h)
  · have hR0 : zput (zput σ (X 0) F0) (X 3) R0 (X 3) = some (ra cB 100 (va_up mkr (s 23 0).toNat (some a))) := by rw [zput_s, eR]
    exact zput_o g4 hR0 (by intro h; cases h)
  · rw [zput_s, ← eL]
    rfl
  · rcases hbn q hq with z | ⟨b, kd, con, sc, sz, kf, zf, z1, z2, z3⟩
    · exact Or.inl z
    · exact Or.inr ⟨b, kd, con, sc, sz, kf, zf, z1, tB z2, z3⟩
  · rw [mk_23] at hi
    by_cases e : i = (s 23 0).toNat
    · rcases hbn p hp with z | ⟨b, kd, con, sc, sz, kf, zf, z1, z2, z3⟩
      · rw [hb] at z; cases z.1
      · rw [hb] at z1
        cases z1
        rcases z3 with z3 | z3 | z3
        · have := z3.1; omega
        · have := z3.1; omega
        · obtain ⟨-, -, z4, z5, z6⟩ := z3
          have e16 : mk s p vs 16 i = ((p % 12 : Nat) : Int) := by rw [e]; exact iup_s (s 16) _ _
          have e17 : mk s p vs 17 i = ((p / 12 : Nat) : Int) := by rw [e]; exact iup_s (s 17) _ _
          have e18 : mk s p vs 18 i = s 7 p := by rw [e]; exact iup_s (s 18) _ _
          have e19 : mk s p vs 19 i = s 8 p := by rw [e]; exact iup_s (s 19) _ _
          subst z4
          subst z5
          refine ⟨a, kd, con, kp p, wk p, kf, zf, by rw [e]; simp [va_up], by rw [e16, e17, e18, e19]; exact tB z2, fun j hj => ?_⟩
          rw [e19] at hj
          have e20 : mk s p vs 20 (4 * i + j) = s 9 (4 * p + j) := by
            have := cpn_in (g := s 20) (h := fun k => s 9 (4 * p + k)) (b := 4 * (s 23 0).toNat) (n := (s 8 p).toNat) (j := 4 * i + j) (by omega) (by omega)
            rw [show 4 * i + j - 4 * (s 23 0).toNat = j by omega] at this
            exact this
          have e21 : mk s p vs 21 (4 * i + j) = s 10 (4 * p + j) := by
            have := cpn_in (g := s 21) (h := fun k => s 10 (4 * p + k)) (b := 4 * (s 23 0).toNat) (n := (s 8 p).toNat) (j := 4 * i + j) (by omega) (by omega)
            rw [show 4 * i + j - 4 * (s 23 0).toNat = j by omega] at this
            exact this
          rw [e20, e21]
          exact z6 j hj
    · obtain ⟨b, kd, con, kept, iw, kf, zf, z1, z2, z3⟩ := hmk i (by omega)
      have e16 : mk s p vs 16 i = s 16 i := iup_n (f := s 16) e
      have e17 : mk s p vs 17 i = s 17 i := iup_n (f := s 17) e
      have e18 : mk s p vs 18 i = s 18 i := iup_n (f := s 18) e
      have e19 : mk s p vs 19 i = s 19 i := iup_n (f := s 19) e
      have hin := hI.inn i
      refine ⟨b, kd, con, kept, iw, kf, zf, by simp [va_up, e]; exact z1, by rw [e16, e17, e18, e19]; exact tB z2, fun j hj => ?_⟩
      rw [e19] at hj
      have e20 : mk s p vs 20 (4 * i + j) = s 20 (4 * i + j) := cpn_out (g := s 20) (h := fun k => s 9 (4 * p + k)) (by omega)
      have e21 : mk s p vs 21 (4 * i + j) = s 21 (4 * i + j) := cpn_out (g := s 21) (h := fun k => s 10 (4 * p + k)) (by omega)
      rw [e20, e21]
      exact z3 j hj
  · rw [mk_23] at hi
    show va_cpy (g 1) (g 0) (4 * p) (4 * (s 23 0).toNat) 4 (4 * i + j) = cpn (s 22) (4 * (s 23 0).toNat) (s 8 p).toNat vs (4 * i + j)
    by_cases e : i = (s 23 0).toNat
    · have e19 : mk s p vs 19 i = s 8 p := by rw [e]; exact iup_s (s 19) _ _
      rw [e19] at hj
      rw [cpn_in (by omega) (by omega), pk_cpy_in (by omega) (by omega), show 4 * i + j - 4 * (s 23 0).toNat = j by omega]
      exact hvs j hj
    · have e19 : mk s p vs 19 i = s 19 i := iup_n (f := s 19) e
      rw [e19] at hj
      have hin := hI.inn i
      rw [cpn_out (by omega), pk_cpy_out (by omega)]
      exact hvl i j (by omega) hj
theorem kpt_mk {s : St} (hI : Inv s) {p : Nat} (vs : Nat → Int) (h0 : kpt s p = 0) : (fun q => kpt (mk s p vs) q - 1) = if s 7 p = 0 then (fun q => kpt s q - 1) else iup (fun q => kpt s q - 1) p (s 23 0) := by
  have h11 := hI.si p
  have h12 := hI.re p
  have hsc := hI.sc p
  have e11 : mk s p vs 11 = (if s 7 p = 1 then iup (s 11) p (s 23 0 + 1) else s 11) := rfl
  have e12 : mk s p vs 12 = (if s 7 p = 2 then iup (s 12) p (s 23 0 + 1) else s 12) := rfl
  have hz : s 11 p + s 12 p = 0 := h0
  by_cases c : s 7 p = 0
  · rw [if_pos c]
    funext q
    unfold kpt
    rw [e11, e12, if_neg (by omega), if_neg (by omega)]
  · rw [if_neg c]
    funext q
    by_cases e : q = p
    · subst e
      rw [iup_s]
      unfold kpt
      rw [e11, e12]
      by_cases c1 : s 7 q = 1
      · rw [if_pos c1, if_neg (by omega), iup_s]; omega
      · rw [if_neg c1, if_pos (by omega), iup_s]; omega
    · rw [iup_n e]
      unfold kpt
      rw [e11, e12]
      by_cases c1 : s 7 p = 1
      · rw [if_pos c1, if_neg (by omega), iup_n e]
      · rw [if_neg c1, if_pos (by omega), iup_n e]
end XM
