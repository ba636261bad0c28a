/-! a pair in work is not made -/
def wkf (W : Nat → Bool) : Nat → Int := fun q => if W q = true then 1 else 0
theorem wkf_add (W : Nat → Bool) (p : Nat) : iup (wkf W) p 1 = wkf (wadd W p) := by
  funext q
  unfold wkf wadd
  by_cases e : q = p
  · subst e; rw [iup_s]; simp
  · rw [iup_n e]; simp [e]
theorem wkf_del {W : Nat → Bool} {p : Nat} (h : ¬ W p = true) : iup (wkf (wadd W p)) p 0 = wkf W := by
  funext q
  unfold wkf wadd
  by_cases e : q = p
  · subst e; rw [iup_s, if_neg h]
  · rw [iup_n e]; simp [e]
def kq (a b : St) (p : Nat) : Prop := a 11 p = b 11 p ∧ a 12 p = b 12 p
def gkq (g : St → Nat → Nat → Int × St) (p : Nat) : Prop := ∀ (s : St) (i k : Nat), Inv s → i < 3 → k < 12 → kq (g s i k).2 s p
theorem rneeds_kq {g : St → Nat → Nat → Int × St} {p q : Nat} (hg : gok g) (hk : gkq g p) (hq : q < 36) : ∀ (n j : Nat) (s : St) (vs : Nat → Int), Inv s → kq (rneeds g q n j s vs).2.1 s p
  | 0, _, s, vs, hs => ⟨rfl, rfl⟩
  | n + 1, j, s, vs, hs => by
    have hnk := hs.nk (4 * q + j)
    unfold rneeds
    by_cases c : s 10 (4 * q + j) = 1
    · rw [if_pos c]; exact rneeds_kq hg hk hq n (j + 1) s _ hs
    · rw [if_neg c]
      have h1 := hg s (q / 12) (s 9 (4 * q + j)).toNat hs (by omega) (by omega)
      have h2 := hk s (q / 12) (s 9 (4 * q + j)).toNat hs (by omega) (by omega)
      generalize g s (q / 12) (s 9 (4 * q + j)).toNat = r at h1 h2 ⊢
      by_cases c2 : r.1 < 0
      · rw [if_pos c2]; exact h2
      · rw [if_neg c2]
        have h3 := rneeds_kq hg hk hq n (j + 1) r.2 (iup vs j r.1) h1.1
        exact ⟨h3.1.trans h2.1, h3.2.trans h2.2⟩
theorem rgo_kq {g : St → Nat → Nat → Int × St} {p q : Nat} (hg : gok g) (hk : gkq g p) (hq : q < 36) (hne : q ≠ p) {s : St} (hs : Inv s) : kq (rgo g s q).2 s p := by
  unfold rgo
  by_cases c : s 5 q = 2
  · rw [if_pos c]
    have := hs.lk c
    exact hk s _ _ hs (by omega) (by omega)
  · rw [if_neg c]
    by_cases c2 : s 7 q = 2 ∧ s 15 0 = 0
    · rw [if_pos c2]; exact ⟨rfl, rfl⟩
    · rw [if_neg c2]
      have h3 := rneeds_kq hg hk hq (s 8 q).toNat 0 s (fun _ => 0) hs
      generalize rneeds g q (s 8 q).toNat 0 s (fun _ => 0) = r at h3 ⊢
      unfold rend
      by_cases c3 : r.1 < 0
      · rw [if_pos c3]; exact h3
      · rw [if_neg c3]
        by_cases c4 : r.2.1 23 0 = 100
        · rw [if_pos c4]; exact h3
        · rw [if_neg c4]
          have e11 : mk r.2.1 q r.2.2 11 p = r.2.1 11 p := by
            show (if r.2.1 7 q = 1 then iup (r.2.1 11) q (r.2.1 23 0 + 1) else r.2.1 11) p = _
            split
            · rw [iup_n (Ne.symm hne)]
            · rfl
          have e12 : mk r.2.1 q r.2.2 12 p = r.2.1 12 p := by
            show (if r.2.1 7 q = 2 then iup (r.2.1 12) q (r.2.1 23 0 + 1) else r.2.1 12) p = _
            split
            · rw [iup_n (Ne.symm hne)]
            · rfl
          exact ⟨e11.trans h3.1, e12.trans h3.2⟩
theorem rget_kq {p : Nat} : ∀ (d : Nat) (W : Nat → Bool), W p = true → gkq (rget d W) p
  | 0, _, _ => fun _ _ _ _ _ _ => ⟨rfl, rfl⟩
  | d + 1, W, hW => by
    intro s i k hs hi hk
    unfold rget
    by_cases c : sn s i k < 0
    · rw [if_pos c]; exact ⟨rfl, rfl⟩
    · rw [if_neg c]
      obtain ⟨q, hq, e, h0, -⟩ := hs.seen hi hk c
      rw [e, Int.toNat_natCast]
      by_cases c1 : s 5 q = 1
      · rw [if_pos c1]; exact ⟨rfl, rfl⟩
      · rw [if_neg c1]
        by_cases c2 : kpt s q ≠ 0
        · rw [if_pos c2]; exact ⟨rfl, rfl⟩
        · rw [if_neg c2]
          by_cases c3 : W q = true ∨ d = 0
          · rw [if_pos c3]; exact ⟨rfl, rfl⟩
          · rw [if_neg c3]
            refine rgo_kq (rget_ok d _) (rget_kq d (wadd W q) ?_) hq (fun z => c3 (Or.inl (by rw [z]; exact hW))) hs
            unfold wadd
            rw [hW, Bool.or_true]
theorem rget_at {s : St} {W : Nat → Bool} {d i k p : Nat} (c : ¬ sn s i k < 0) (e : sn s i k = (p : Int)) : rget (d + 1) W s i k = if s 5 p = 1 then (10000000000 + s 6 p, s) else if kpt s p ≠ 0 then (kpt s p - 1, s) else if W p = true ∨ d = 0 then (-3, s) else rgo (rget d (wadd W p)) s p := by
  show (if sn s i k < 0 then _ else _) = _
  rw [if_neg c, e, Int.toNat_natCast]
def rnw (d : Nat) (W : Nat → Bool) (s : St) (p : Nat) : Int × St := if s 7 p = 2 ∧ s 15 0 = 0 then (-4, s) else rend p (rneeds (rget d W) p (s 8 p).toNat 0 s (fun _ => 0))
