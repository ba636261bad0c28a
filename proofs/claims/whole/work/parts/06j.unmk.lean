/-! what is kept is not made again -/
def gkk (g : St → Nat → Nat → Int × St) (p : Nat) : Prop := ∀ (s : St) (i k : Nat), Inv s → i < 3 → k < 12 → kpt s p ≠ 0 → kq (g s i k).2 s p
theorem kq.kpt {a b : St} {p : Nat} (h : kq a b p) : kpt a p = kpt b p := by
  show a 11 p + a 12 p = b 11 p + b 12 p
  rw [h.1, h.2]
theorem rneeds_kk {g : St → Nat → Nat → Int × St} {p q : Nat} (hg : gok g) (hk : gkk g p) (hq : q < 36) : ∀ (n j : Nat) (s : St) (vs : Nat → Int), Inv s → kpt s p ≠ 0 → kq (rneeds g q n j s vs).2.1 s p
  | 0, _, s, vs, hs, _ => ⟨rfl, rfl⟩
  | n + 1, j, s, vs, hs, h0 => by
    have hnk := hs.nk (4 * q + j)
    unfold rneeds
    by_cases c : s 10 (4 * q + j) = 1
    · rw [if_pos c]; exact rneeds_kk hg hk hq n (j + 1) s _ hs h0
    · rw [if_neg c]
      have h1 := hg s (q / 12) (s 9 (4 * q + j)).toNat hs (by omega) (by omega)
      have h2 := hk s (q / 12) (s 9 (4 * q + j)).toNat hs (by omega) (by omega) h0
      generalize g s (q / 12) (s 9 (4 * q + j)).toNat = r at h1 h2 ⊢
      by_cases c2 : r.1 < 0
      · rw [if_pos c2]; exact h2
      · rw [if_neg c2]
        have h3 := rneeds_kk hg hk hq n (j + 1) r.2 (iup vs j r.1) h1.1 (by rw [h2.kpt]; exact h0)
        exact ⟨h3.1.trans h2.1, h3.2.trans h2.2⟩
theorem rgo_kk {g : St → Nat → Nat → Int × St} {p q : Nat} (hg : gok g) (hk : gkk g p) (hq : q < 36) (hne : q ≠ p) {s : St} (hs : Inv s) (h0 : kpt s p ≠ 0) : kq (rgo g s q).2 s p := by
  unfold rgo
  by_cases c : s 5 q = 2
  · rw [if_pos c]
    have := hs.lk c
    exact hk s _ _ hs (by omega) (by omega) h0
  · rw [if_neg c]
    by_cases c2 : s 7 q = 2 ∧ s 15 0 = 0
    · rw [if_pos c2]; exact ⟨rfl, rfl⟩
    · rw [if_neg c2]
      have h3 := rneeds_kk hg hk hq (s 8 q).toNat 0 s (fun _ => 0) hs h0
      generalize rneeds g q (s 8 q).toNat 0 s (fun _ => 0) = r at h3 ⊢
      unfold rend
      by_cases c3 : r.1 < 0
      · rw [if_pos c3]; exact h3
      · rw [if_neg c3]
        by_cases c4 : r.2.1 23 0 = 100
        · rw [if_pos c4]; exact h3
        · rw [if_neg c4]
          have e11 : mk r.2.1 q r.2.2 11 p = r.2.1 11 p := by
            show (if r.2.1 7 q = 1 then iup (r.2.1 11) q (r.2.1 23 0 + 1) else r.2.1 11) p = _
            split
            · rw [iup_n (Ne.symm hne)]
            · rfl
          have e12 : mk r.2.1 q r.2.2 12 p = r.2.1 12 p := by
            show (if r.2.1 7 q = 2 then iup (r.2.1 12) q (r.2.1 23 0 + 1) else r.2.1 12) p = _
            split
            · rw [iup_n (Ne.symm hne)]
            · rfl
          exact ⟨e11.trans h3.1, e12.trans h3.2⟩
theorem rget_kk {p : Nat} : ∀ (d : Nat) (W : Nat → Bool), gkk (rget d W) p
  | 0, _ => fun _ _ _ _ _ _ _ => ⟨rfl, rfl⟩
  | d + 1, W => by
    intro s i k hs hi hk h0
    unfold rget
    by_cases c : sn s i k < 0
    · rw [if_pos c]; exact ⟨rfl, rfl⟩
    · rw [if_neg c]
      obtain ⟨q, hq, e, h5, -⟩ := hs.seen hi hk c
      rw [e, Int.toNat_natCast]
      by_cases c1 : s 5 q = 1
      · rw [if_pos c1]; exact ⟨rfl, rfl⟩
      · rw [if_neg c1]
        by_cases c2 : kpt s q ≠ 0
        · rw [if_pos c2]; exact ⟨rfl, rfl⟩
        · rw [if_neg c2]
          by_cases c3 : W q = true ∨ d = 0
          · rw [if_pos c3]; exact ⟨rfl, rfl⟩
          · rw [if_neg c3]
            exact rgo_kk (rget_ok d _) (rget_kk d (wadd W q)) hq (fun z => c2 (by rw [z]; exact h0)) hs h0
/-- kept from the number f on is kept no more, of the first n pairs -/
def kr (kp : Nat → Int) (f : Int) (n : Nat) : Nat → Int := fun q => if q < n ∧ f ≤ kp q then -1 else kp q
theorem kr_0 (kp : Nat → Int) (f : Int) : kr kp f 0 = kp := by funext q; unfold kr; rw [if_neg (by omega)]
theorem kr_keep {kp : Nat → Int} {f : Int} {n : Nat} (h : kr kp f n n < f) : kr kp f (n + 1) = kr kp f n := by
  have e : kr kp f n n = kp n := by unfold kr; rw [if_neg (by omega)]
  rw [e] at h
  funext q
  unfold kr
  by_cases c : q = n
  · subst c; rw [if_neg (by omega), if_neg (by omega)]
  · by_cases c2 : q < n ∧ f ≤ kp q
    · rw [if_pos c2, if_pos (by omega)]
    · rw [if_neg c2, if_neg (by omega)]
theorem kr_drop {kp : Nat → Int} {f : Int} {n : Nat} (h : f ≤ kr kp f n n) : iup (kr kp f n) n (-1) = kr kp f (n + 1) := by
  have e : kr kp f n n = kp n := by unfold kr; rw [if_neg (by omega)]
  rw [e] at h
  funext q
  by_cases c : q = n
  · subst c; rw [iup_s]; unfold kr; rw [if_pos (by omega)]
  · rw [iup_n c]
    unfold kr
    by_cases c2 : q < n ∧ f ≤ kp q
    · rw [if_pos c2, if_pos (by omega)]
    · rw [if_neg c2, if_neg (by omega)]
section XU
variable {cI cZ cJ cB : ClassId} {X : Nat → Nat} {O : Nat → Prop} {bnd mkr : Nat → Option Nat} {g : Nat → Nat → Int} {σ : zh} {s : St} {kp wk : Nat → Int}
theorem xG.kpc {kp' : Nat → Int} (hx : xG cI cZ cJ cB X O bnd mkr g s kp wk σ) (h : ∀ q, q < 36 → bnd q ≠ none → kp' q = kp q) (hr : ∀ p, -1 ≤ kp' p ∧ kp' p ≤ 200) : xG cI cZ cJ cB X O bnd mkr g s kp' wk σ := by
  obtain ⟨hO, hX, h1, h2, h3, h4, h5, hB, hBf, hbn, hmk, hvl, hwk, hkp, hk⟩ := hx
  refine ⟨hO, hX, h1, h2, h3, h4, h5, hB, hBf, fun p hp => ?_, hmk, hvl, hwk, hr, hk⟩
  rcases hbn p hp with z | ⟨a, kd, con, sc, sz, kf, zf, z1, z2, z3⟩
  · exact Or.inl z
  · exact Or.inr ⟨a, kd, con, sc, sz, kf, zf, z1, by rw [h p hp (by rw [z1]; simp)]; exact z2, z3⟩
theorem xG.sq2 {s' : St} (hx : xG cI cZ cJ cB X O bnd mkr g s kp wk σ) (e : ∀ f, f ≤ 10 ∨ f = 15 ∨ f = 23 → s' f = s f) (q2 : ∀ i : Nat, (i : Int) < s 23 0 → s' 16 i = s 16 i ∧ s' 17 i = s 17 i ∧ s' 18 i = s 18 i ∧ s' 19 i = s 19 i) (q3 : ∀ j : Nat, (j : Int) < 4 * s 23 0 → s' 20 j = s 20 j ∧ s' 21 j = s 21 j ∧ s' 22 j = s 22 j) : xG cI cZ cJ cB X O bnd mkr g s' kp wk σ := by
  refine (hx.sq (s' := srow (srow s' 11 (s 11)) 12 (s 12)) ⟨fun f hf => ?_, q2, q3⟩)
  by_cases c1 : f = 12
  · subst c1; rw [srow_s]
  · rw [srow_n c1]
    by_cases c2 : f = 11
    · subst c2; rw [srow_s]
    · rw [srow_n c2]
      simp only [core, Bool.or_eq_true, decide_eq_true_eq, beq_iff_eq] at hf
      exact e f (by omega)
end XU
