/-! what a getting reads: the core -/
def core (f : Nat) : Bool := decide (f ≤ 12) || f == 15 || f == 23
def ceq (a b : St) : Prop := ∀ f, core f = true → a f = b f
theorem ceq.rf (a : St) : ceq a a := fun _ _ => rfl
theorem ceq.sy {a b : St} (h : ceq a b) : ceq b a := fun f hf => (h f hf).symm
theorem ceq.tr {a b c : St} (h : ceq a b) (k : ceq b c) : ceq a c := fun f hf => (h f hf).trans (k f hf)
theorem ceq_mk {a b : St} (h : ceq a b) (p : Nat) (v w : Nat → Int) : ceq (mk a p v) (mk b p w) := by
  intro f hf
  by_cases c1 : f = 11
  · subst c1
    show (if a 7 p = 1 then iup (a 11) p (a 23 0 + 1) else a 11) = (if b 7 p = 1 then iup (b 11) p (b 23 0 + 1) else b 11)
    rw [h 7 rfl, h 11 rfl, h 23 rfl]
  · by_cases c2 : f = 12
    · subst c2
      show (if a 7 p = 2 then iup (a 12) p (a 23 0 + 1) else a 12) = (if b 7 p = 2 then iup (b 12) p (b 23 0 + 1) else b 12)
      rw [h 7 rfl, h 12 rfl, h 23 rfl]
    · by_cases c3 : f = 23
      · subst c3
        show iup (a 23) 0 (a 23 0 + 1) = iup (b 23) 0 (b 23 0 + 1)
        rw [h 23 rfl]
      · have hd : dyn f = false := by
          simp only [core, Bool.or_eq_true, decide_eq_true_eq, beq_iff_eq] at hf
          simp only [dyn, Bool.or_eq_false_iff, beq_eq_false_iff_ne, Bool.and_eq_false_iff, decide_eq_false_iff_not]
          omega
        rw [mk_o hd, mk_o hd]
        exact h f hf
def gcg (g : St → Nat → Nat → Int × St) : Prop := ∀ (a b : St) (i k : Nat), ceq a b → (g a i k).1 = (g b i k).1 ∧ ceq (g a i k).2 (g b i k).2
theorem rneeds_cg {g : St → Nat → Nat → Int × St} (hg : gcg g) (p : Nat) : ∀ (n j : Nat) (a b : St) (vs : Nat → Int), ceq a b → (rneeds g p n j a vs).1 = (rneeds g p n j b vs).1 ∧ ceq (rneeds g p n j a vs).2.1 (rneeds g p n j b vs).2.1 ∧ (rneeds g p n j a vs).2.2 = (rneeds g p n j b vs).2.2
  | 0, _, a, b, vs, h => ⟨rfl, h, rfl⟩
  | n + 1, j, a, b, vs, h => by
    unfold rneeds
    rw [h 10 rfl, h 9 rfl]
    have hh := hg a b (p / 12) (b 9 (4 * p + j)).toNat h
    by_cases c : b 10 (4 * p + j) = 1
    · rw [if_pos c, if_pos c]
      exact rneeds_cg hg p n (j + 1) a b _ h
    · rw [if_neg c, if_neg c, hh.1]
      by_cases c2 : (g b (p / 12) (b 9 (4 * p + j)).toNat).1 < 0
      · rw [if_pos c2, if_pos c2]
        exact ⟨rfl, hh.2, rfl⟩
      · rw [if_neg c2, if_neg c2]
        exact rneeds_cg hg p n (j + 1) _ _ _ hh.2
theorem rgo_cg {g : St → Nat → Nat → Int × St} (hg : gcg g) {a b : St} (h : ceq a b) (p : Nat) : (rgo g a p).1 = (rgo g b p).1 ∧ ceq (rgo g a p).2 (rgo g b p).2 := by
  unfold rgo
  rw [h 5 rfl, h 6 rfl, h 7 rfl, h 8 rfl, h 15 rfl]
  by_cases c : b 5 p = 2
  · rw [if_pos c, if_pos c]
    exact hg a b _ _ h
  · rw [if_neg c, if_neg c]
    by_cases c2 : b 7 p = 2 ∧ b 15 0 = 0
    · rw [if_pos c2, if_pos c2]
      exact ⟨rfl, h⟩
    · rw [if_neg c2, if_neg c2]
      obtain ⟨e1, e2, e3⟩ := rneeds_cg hg p (b 8 p).toNat 0 a b (fun _ => 0) h
      unfold rend
      rw [e1, e2 23 rfl]
      by_cases c3 : (rneeds g p (b 8 p).toNat 0 b (fun _ => 0)).1 < 0
      · rw [if_pos c3, if_pos c3]
        exact ⟨rfl, e2⟩
      · rw [if_neg c3, if_neg c3]
        by_cases c4 : (rneeds g p (b 8 p).toNat 0 b (fun _ => 0)).2.1 23 0 = 100
        · rw [if_pos c4, if_pos c4]
          exact ⟨rfl, e2⟩
        · rw [if_neg c4, if_neg c4]
          exact ⟨rfl, ceq_mk e2 p _ _⟩
theorem rget_cg : ∀ (d : Nat) (wk : Nat → Bool), gcg (rget d wk)
  | 0, _ => fun a b i k h => ⟨rfl, h⟩
  | d + 1, wk => by
    intro a b i k h
    unfold rget
    rw [sn_congr (h 0 rfl) (h 5 rfl) i k, h 5 rfl, h 6 rfl, show kpt a = kpt b from by funext p; unfold kpt; rw [h 11 rfl, h 12 rfl]]
    by_cases c : sn b i k < 0
    · rw [if_pos c, if_pos c]; exact ⟨rfl, h⟩
    · rw [if_neg c, if_neg c]
      by_cases c1 : b 5 (sn b i k).toNat = 1
      · rw [if_pos c1, if_pos c1]; exact ⟨rfl, h⟩
      · rw [if_neg c1, if_neg c1]
        by_cases c2 : kpt b (sn b i k).toNat ≠ 0
        · rw [if_pos c2, if_pos c2]; exact ⟨rfl, h⟩
        · rw [if_neg c2, if_neg c2]
          by_cases c3 : wk (sn b i k).toNat = true ∨ d = 0
          · rw [if_pos c3, if_pos c3]; exact ⟨rfl, h⟩
          · rw [if_neg c3, if_neg c3]
            exact rgo_cg (rget_cg d _) h _
/-- the same state, but for what no call shows: the machine's own fields, the old copies, instances that are not made -/
def seq (a b : St) : Prop := ceq a b ∧ (∀ i : Nat, (i : Int) < b 23 0 → a 16 i = b 16 i ∧ a 17 i = b 17 i ∧ a 18 i = b 18 i ∧ a 19 i = b 19 i) ∧ ∀ j : Nat, (j : Int) < 4 * b 23 0 → a 20 j = b 20 j ∧ a 21 j = b 21 j ∧ a 22 j = b 22 j
theorem seq.rf (a : St) : seq a a := ⟨ceq.rf a, fun _ _ => ⟨rfl, rfl, rfl, rfl⟩, fun _ _ => ⟨rfl, rfl, rfl⟩⟩
theorem seq.sy {a b : St} (h : seq a b) : seq b a := by
  have e := h.1 23 rfl
  exact ⟨h.1.sy, fun i hi => by have := h.2.1 i (by rw [← e]; exact hi); omega, fun j hj => by have := h.2.2 j (by rw [← e]; exact hj); omega⟩
theorem seq.tr {a b c : St} (h : seq a b) (k : seq b c) : seq a c := by
  have e := k.1 23 rfl
  exact ⟨h.1.tr k.1, fun i hi => by have := h.2.1 i (by rw [e]; exact hi); have := k.2.1 i hi; omega, fun j hj => by have := h.2.2 j (by rw [e]; exact hj); have := k.2.2 j hj; omega⟩
theorem sem_seq {a b : St} (h : sem a b) : seq a b := ⟨fun f hf => h f (by simp only [core, Bool.or_eq_true, decide_eq_true_eq, beq_iff_eq] at hf; omega), fun i _ => by rw [h 16 (by omega), h 17 (by omega), h 18 (by omega), h 19 (by omega)]; exact ⟨rfl, rfl, rfl, rfl⟩, fun i _ => by rw [h 20 (by omega), h 21 (by omega), h 22 (by omega)]; exact ⟨rfl, rfl, rfl⟩⟩
