/-! what a getting keeps -/
def grow (s r : St) : Prop := (∀ f, dyn f = false → r f = s f) ∧ s 23 0 ≤ r 23 0 ∧ (∀ p, r 11 p = s 11 p ∨ (p < 36 ∧ s 23 0 < r 11 p)) ∧ (∀ p, r 12 p = s 12 p ∨ (p < 36 ∧ s 23 0 < r 12 p)) ∧ (∀ i : Nat, (i : Int) < s 23 0 → r 16 i = s 16 i ∧ r 17 i = s 17 i ∧ r 18 i = s 18 i ∧ r 19 i = s 19 i) ∧ (∀ j : Nat, (j : Int) < 4 * s 23 0 → r 20 j = s 20 j ∧ r 21 j = s 21 j ∧ r 22 j = s 22 j) ∧ ∀ j : Nat, j ≠ 0 → r 23 j = s 23 j
theorem grow.rf (s : St) : grow s s := ⟨fun _ _ => rfl, Int.le_refl _, fun _ => Or.inl rfl, fun _ => Or.inl rfl, fun _ _ => ⟨rfl, rfl, rfl, rfl⟩, fun _ _ => ⟨rfl, rfl, rfl⟩, fun _ _ => rfl⟩
theorem grow.tr {a b c : St} (h : grow a b) (k : grow b c) : grow a c := by
  obtain ⟨h1, h2, h3, h4, h5, h6, h7⟩ := h
  obtain ⟨k1, k2, k3, k4, k5, k6, k7⟩ := k
  refine ⟨fun f hf => (k1 f hf).trans (h1 f hf), by omega, fun p => ?_, fun p => ?_, fun i hi => ?_, fun j hj => ?_, fun j hj => (k7 j hj).trans (h7 j hj)⟩
  · have := h3 p; have := k3 p; omega
  · have := h4 p; have := k4 p; omega
  · have := h5 i hi; have := k5 i (by omega); omega
  · have := h6 j hj; have := k6 j (by omega); omega
theorem grow.mkG {s : St} (hm : 0 ≤ s 23 0) {p : Nat} (hp : p < 36) (vs : Nat → Int) : grow s (mk s p vs) := by
  refine ⟨fun f hf => mk_o hf, by rw [mk_23]; omega, fun q => ?_, fun q => ?_, fun i hi => ?_, fun j hj => ?_, fun j hj => iup_n (f := s 23) hj⟩
  · show (if s 7 p = 1 then iup (s 11) p (s 23 0 + 1) else s 11) q = _ ∨ (q < 36 ∧ _ < (if s 7 p = 1 then iup (s 11) p (s 23 0 + 1) else s 11) q)
    by_cases c : s 7 p = 1
    · rw [if_pos c]
      by_cases e : q = p
      · subst e; rw [iup_s]; exact Or.inr (by omega)
      · rw [iup_n e]; exact Or.inl rfl
    · rw [if_neg c]; exact Or.inl rfl
  · show (if s 7 p = 2 then iup (s 12) p (s 23 0 + 1) else s 12) q = _ ∨ (q < 36 ∧ _ < (if s 7 p = 2 then iup (s 12) p (s 23 0 + 1) else s 12) q)
    by_cases c : s 7 p = 2
    · rw [if_pos c]
      by_cases e : q = p
      · subst e; rw [iup_s]; exact Or.inr (by omega)
      · rw [iup_n e]; exact Or.inl rfl
    · rw [if_neg c]; exact Or.inl rfl
  · have ne : i ≠ (s 23 0).toNat := by omega
    exact ⟨iup_n (f := s 16) ne, iup_n (f := s 17) ne, iup_n (f := s 18) ne, iup_n (f := s 19) ne⟩
  · have ne : j < 4 * (s 23 0).toNat ∨ 4 * (s 23 0).toNat + (s 8 p).toNat ≤ j := by omega
    exact ⟨cpn_out (g := s 20) (h := fun k => s 9 (4 * p + k)) ne, cpn_out (g := s 21) (h := fun k => s 10 (4 * p + k)) ne, cpn_out (g := s 22) (h := vs) ne⟩
def okr (s : St) (r : Int × St) : Prop := Inv r.2 ∧ grow s r.2 ∧ -5 ≤ r.1 ∧ r.1 ≤ 1000000000000
def gok (g : St → Nat → Nat → Int × St) : Prop := ∀ (s : St) (i k : Nat), Inv s → i < 3 → k < 12 → okr s (g s i k)
theorem rneeds_ok {g : St → Nat → Nat → Int × St} (hg : gok g) {p : Nat} (hp : p < 36) : ∀ (n j : Nat) (s : St) (vs : Nat → Int), Inv s → (∀ k, 0 ≤ vs k ∧ vs k ≤ 1000000000000) →
    Inv (rneeds g p n j s vs).2.1 ∧ grow s (rneeds g p n j s vs).2.1 ∧ -5 ≤ (rneeds g p n j s vs).1 ∧ (rneeds g p n j s vs).1 ≤ 0 ∧ ∀ k, 0 ≤ (rneeds g p n j s vs).2.2 k ∧ (rneeds g p n j s vs).2.2 k ≤ 1000000000000
  | 0, j, s, vs, hs, hv => ⟨hs, grow.rf s, by show (-5 : Int) ≤ 0; omega, Int.le_refl 0, hv⟩
  | n + 1, j, s, vs, hs, hv => by
    have hk := hs.nk (4 * p + j)
    have upd : ∀ v : Int, 0 ≤ v ∧ v ≤ 1000000000000 → ∀ k, 0 ≤ iup vs j v k ∧ iup vs j v k ≤ 1000000000000 := by
      intro v h k
      by_cases e : k = j
      · subst e; rw [iup_s]; exact h
      · rw [iup_n e]; exact hv k
    unfold rneeds
    by_cases hz : s 10 (4 * p + j) = 1
    · rw [if_pos hz]
      exact rneeds_ok hg hp n (j + 1) s _ hs (upd _ (by omega))
    · rw [if_neg hz]
      have h1 := hg s (p / 12) (s 9 (4 * p + j)).toNat hs (by omega) (by omega)
      generalize g s (p / 12) (s 9 (4 * p + j)).toNat = r at h1 ⊢
      obtain ⟨a1, a2, a3, a4⟩ := h1
      by_cases hr : r.1 < 0
      · rw [if_pos hr]
        exact ⟨a1, a2, a3, by show r.1 ≤ 0; omega, hv⟩
      · rw [if_neg hr]
        obtain ⟨b1, b2, b3⟩ := rneeds_ok hg hp n (j + 1) r.2 (iup vs j r.1) a1 (upd _ (by omega))
        exact ⟨b1, a2.tr b2, b3⟩
theorem rend_ok {s : St} {p : Nat} {r : Int × St × (Nat → Int)} (hp : p < 36) (h3 : s 5 p = 3) (hno : ¬ (s 7 p = 2 ∧ s 15 0 = 0)) (hi : Inv r.2.1) (hg : grow s r.2.1) (h1 : -5 ≤ r.1) (h2 : r.1 ≤ 0) (hv : ∀ k, 0 ≤ r.2.2 k ∧ r.2.2 k ≤ 1000000000000) : okr s (rend p r) := by
  unfold rend
  have hmd := hi.md
  by_cases c : r.1 < 0
  · rw [if_pos c]; exact ⟨hi, hg, h1, by show r.1 ≤ _; omega⟩
  · rw [if_neg c]
    by_cases c2 : r.2.1 23 0 = 100
    · rw [if_pos c2]; exact ⟨hi, hg, by show (-5 : Int) ≤ -5; omega, by show (-5 : Int) ≤ _; omega⟩
    · rw [if_neg c2]
      have o := hg.1
      refine ⟨hi.mkI hp (by rw [o 5 rfl]; exact h3) (by rw [o 7 rfl, o 15 rfl]; exact hno) c2 (fun k _ => hv k), hg.tr (grow.mkG hmd.1 hp _), ?_, ?_⟩
      · show -5 ≤ r.2.1 23 0; omega
      · show r.2.1 23 0 ≤ _; omega
theorem rgo_ok {g : St → Nat → Nat → Int × St} (hg : gok g) {s : St} {p : Nat} (hp : p < 36) (hs : Inv s) (h0 : s 5 p = 2 ∨ s 5 p = 3) : okr s (rgo g s p) := by
  unfold rgo
  by_cases c : s 5 p = 2
  · rw [if_pos c]
    have := hs.lk c
    exact hg s (p / 12) (s 6 p).toNat hs (by omega) (by omega)
  · rw [if_neg c]
    by_cases c2 : s 7 p = 2 ∧ s 15 0 = 0
    · rw [if_pos c2]; exact ⟨hs, grow.rf s, by show (-5 : Int) ≤ -4; omega, by show (-4 : Int) ≤ _; omega⟩
    · rw [if_neg c2]
      obtain ⟨a1, a2, a3, a4, a5⟩ := rneeds_ok hg hp (s 8 p).toNat 0 s (fun _ => 0) hs (fun _ => by omega)
      exact rend_ok hp (by omega) c2 a1 a2 a3 a4 a5
theorem rget_ok : ∀ (d : Nat) (wk : Nat → Bool), gok (rget d wk)
  | 0, wk => fun s i k hs _ _ => ⟨hs, grow.rf s, by show (-5 : Int) ≤ -3; omega, by show (-3 : Int) ≤ _; omega⟩
  | d + 1, wk => by
    intro s i k hs hi hk
    unfold rget
    by_cases c : sn s i k < 0
    · rw [if_pos c]; exact ⟨hs, grow.rf s, by show (-5 : Int) ≤ -2; omega, by show (-2 : Int) ≤ _; omega⟩
    · rw [if_neg c]
      obtain ⟨p, hp, e, h0, -⟩ := hs.seen hi hk c
      rw [e, Int.toNat_natCast]
      by_cases c1 : s 5 p = 1
      · rw [if_pos c1]
        have := hs.nu p
        unfold r32 at this
        exact ⟨hs, grow.rf s, by show -5 ≤ 10000000000 + s 6 p; omega, by show 10000000000 + s 6 p ≤ _; omega⟩
      · rw [if_neg c1]
        have hkp := hs.kp p
        have hmd := hs.md
        by_cases c2 : kpt s p ≠ 0
        · rw [if_pos c2]; exact ⟨hs, grow.rf s, by show -5 ≤ kpt s p - 1; omega, by show kpt s p - 1 ≤ _; omega⟩
        · rw [if_neg c2]
          by_cases c3 : wk p = true ∨ d = 0
          · rw [if_pos c3]; exact ⟨hs, grow.rf s, by show (-5 : Int) ≤ -3; omega, by show (-3 : Int) ≤ _; omega⟩
          · rw [if_neg c3]
            have := hs.kd p
            exact rgo_ok (rget_ok d (wadd wk p)) hp hs (by omega)
/-- a getting from outside -/
def sget (st : St) (i k : Nat) : Int × St := if (rget 37 (fun _ => false) st i k).1 < 0 then ((rget 37 (fun _ => false) st i k).1, st) else rget 37 (fun _ => false) st i k
