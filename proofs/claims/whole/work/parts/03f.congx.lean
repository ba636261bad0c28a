/-! the same but for the old copies -/
def xok (f : Nat) : Bool := f != 13 && f != 14
def xeq (a b : St) : Prop := ∀ f, xok f = true → a f = b f
theorem xeq_mk {a b : St} (h : xeq a b) (p : Nat) {v w : Nat → Int} (e : v = w) : xeq (mk a p v) (mk b p w) := by
  intro f hf
  subst e
  unfold mk
  rw [h 7 rfl, h 8 rfl, h 9 rfl, h 10 rfl, h 11 rfl, h 12 rfl, h 16 rfl, h 17 rfl, h 18 rfl, h 19 rfl, h 20 rfl, h 21 rfl, h 22 rfl, h 23 rfl, h f hf]
def gcx (g : St → Nat → Nat → Int × St) : Prop := ∀ (a b : St) (i k : Nat), xeq a b → (g a i k).1 = (g b i k).1 ∧ xeq (g a i k).2 (g b i k).2
theorem rneeds_cx {g : St → Nat → Nat → Int × St} (hg : gcx g) (p : Nat) : ∀ (n j : Nat) (a b : St) (vs : Nat → Int), xeq a b → (rneeds g p n j a vs).1 = (rneeds g p n j b vs).1 ∧ xeq (rneeds g p n j a vs).2.1 (rneeds g p n j b vs).2.1 ∧ (rneeds g p n j a vs).2.2 = (rneeds g p n j b vs).2.2
  | 0, _, a, b, vs, h => ⟨rfl, h, rfl⟩
  | n + 1, j, a, b, vs, h => by
    unfold rneeds
    rw [h 10 rfl, h 9 rfl]
    have hh := hg a b (p / 12) (b 9 (4 * p + j)).toNat h
    by_cases c : b 10 (4 * p + j) = 1
    · rw [if_pos c, if_pos c]
      exact rneeds_cx hg p n (j + 1) a b _ h
    · rw [if_neg c, if_neg c, hh.1]
      by_cases c2 : (g b (p / 12) (b 9 (4 * p + j)).toNat).1 < 0
      · rw [if_pos c2, if_pos c2]
        exact ⟨rfl, hh.2, rfl⟩
      · rw [if_neg c2, if_neg c2]
        exact rneeds_cx hg p n (j + 1) _ _ _ hh.2
theorem rgo_cx {g : St → Nat → Nat → Int × St} (hg : gcx g) {a b : St} (h : xeq a b) (p : Nat) : (rgo g a p).1 = (rgo g b p).1 ∧ xeq (rgo g a p).2 (rgo g b p).2 := by
  unfold rgo
  rw [h 5 rfl, h 6 rfl, h 7 rfl, h 8 rfl, h 15 rfl]
  by_cases c : b 5 p = 2
  · rw [if_pos c, if_pos c]
    exact hg a b _ _ h
  · rw [if_neg c, if_neg c]
    by_cases c2 : b 7 p = 2 ∧ b 15 0 = 0
    · rw [if_pos c2, if_pos c2]
      exact ⟨rfl, h⟩
    · rw [if_neg c2, if_neg c2]
      obtain ⟨e1, e2, e3⟩ := rneeds_cx hg p (b 8 p).toNat 0 a b (fun _ => 0) h
      unfold rend
      rw [e1, e2 23 rfl]
      by_cases c3 : (rneeds g p (b 8 p).toNat 0 b (fun _ => 0)).1 < 0
      · rw [if_pos c3, if_pos c3]
        exact ⟨rfl, e2⟩
      · rw [if_neg c3, if_neg c3]
        by_cases c4 : (rneeds g p (b 8 p).toNat 0 b (fun _ => 0)).2.1 23 0 = 100
        · rw [if_pos c4, if_pos c4]
          exact ⟨rfl, e2⟩
        · rw [if_neg c4, if_neg c4]
          exact ⟨rfl, xeq_mk e2 p e3⟩
theorem rget_cx : ∀ (d : Nat) (wk : Nat → Bool), gcx (rget d wk)
  | 0, _ => fun a b i k h => ⟨rfl, h⟩
  | d + 1, wk => by
    intro a b i k h
    unfold rget
    rw [sn_congr (h 0 rfl) (h 5 rfl) i k, h 5 rfl, h 6 rfl, show kpt a = kpt b from by funext p; unfold kpt; rw [h 11 rfl, h 12 rfl]]
    by_cases c : sn b i k < 0
    · rw [if_pos c, if_pos c]; exact ⟨rfl, h⟩
    · rw [if_neg c, if_neg c]
      by_cases c1 : b 5 (sn b i k).toNat = 1
      · rw [if_pos c1, if_pos c1]; exact ⟨rfl, h⟩
      · rw [if_neg c1, if_neg c1]
        by_cases c2 : kpt b (sn b i k).toNat ≠ 0
        · rw [if_pos c2, if_pos c2]; exact ⟨rfl, h⟩
        · rw [if_neg c2, if_neg c2]
          by_cases c3 : wk (sn b i k).toNat = true ∨ d = 0
          · rw [if_pos c3, if_pos c3]; exact ⟨rfl, h⟩
          · rw [if_neg c3, if_neg c3]
            exact rgo_cx (rget_cx d _) h _
