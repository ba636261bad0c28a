/-! REACH: sets of pairs as masks -/
def nxn (st : St) (a : Nat) : Nat → Nat
  | 0 => 0
  | n + 1 => nxn st a n ||| 2 ^ (a / 12 * 12 + (st 9 (4 * a + n)).toNat)
def nxa (st : St) (a : Nat) : Nat := if st 5 a = 2 then 2 ^ (a / 12 * 12 + (st 6 a).toNat) else if st 5 a = 3 then nxn st a (st 8 a).toNat else 0
def nxt (st : St) (p : Nat) : Nat := if sn st (p / 12) (p % 12) < 0 then 0 else nxa st (sn st (p / 12) (p % 12)).toNat
def bsub (M N : Nat) : Prop := ∀ q, M.testBit q = true → N.testBit q = true
def closed (st : St) (M : Nat) : Prop := ∀ p, p < 36 → M.testBit p = true → bsub (nxt st p) M
theorem bsub.rf (M : Nat) : bsub M M := fun _ h => h
theorem bsub.tr {a b c : Nat} (h : bsub a b) (k : bsub b c) : bsub a c := fun q hq => k q (h q hq)
theorem bsub.orl (a b : Nat) : bsub a (a ||| b) := fun q h => by rw [Nat.testBit_or, h]; rfl
theorem bsub.orr (a b : Nat) : bsub b (a ||| b) := fun q h => by rw [Nat.testBit_or, h, Bool.or_true]
theorem bsub.or {a b c : Nat} (h : bsub a c) (k : bsub b c) : bsub (a ||| b) c := fun q hq => by
  rw [Nat.testBit_or, Bool.or_eq_true] at hq
  exact hq.elim (h q) (k q)
theorem bsub.eq {a b : Nat} (h : bsub a b) (k : bsub b a) : a = b := by
  apply Nat.eq_of_testBit_eq
  intro i
  cases e : a.testBit i with
  | true => exact (h i e).symm
  | false =>
    cases e2 : b.testBit i with
    | true => exact (by rw [k i e2] at e; cases e)
    | false => rfl
theorem bit_lt {M q n : Nat} (h : M < 2 ^ n) (hq : M.testBit q = true) : q < n := by
  apply Classical.byContradiction
  intro c
  have : M < 2 ^ q := Nat.lt_of_lt_of_le h (Nat.pow_le_pow_right (by omega) (by omega))
  rw [Nat.testBit_lt_two_pow this] at hq
  cases hq
theorem pow_lt36 {q : Nat} (h : q < 36) : 2 ^ q < 2 ^ 36 := Nat.pow_lt_pow_right (by omega) h
theorem nxn_lt {st : St} (hs : Inv st) {a : Nat} (ha : a < 36) : ∀ n, nxn st a n < 2 ^ 36
  | 0 => by show 0 < 2 ^ 36; decide
  | n + 1 => by
    have := hs.nk (4 * a + n)
    exact Nat.or_lt_two_pow (nxn_lt hs ha n) (pow_lt36 (by omega))
theorem nxa_lt {st : St} (hs : Inv st) {a : Nat} (ha : a < 36) : nxa st a < 2 ^ 36 := by
  unfold nxa
  by_cases c : st 5 a = 2
  · rw [if_pos c]
    have := hs.lk c
    exact pow_lt36 (by omega)
  · rw [if_neg c]
    by_cases c2 : st 5 a = 3
    · rw [if_pos c2]; exact nxn_lt hs ha _
    · rw [if_neg c2]; decide
theorem nxt_lt {st : St} (hs : Inv st) {p : Nat} (hp : p < 36) : nxt st p < 2 ^ 36 := by
  unfold nxt
  by_cases c : sn st (p / 12) (p % 12) < 0
  · rw [if_pos c]; decide
  · rw [if_neg c]
    obtain ⟨a, ha, e, -⟩ := hs.seen (i := p / 12) (key := p % 12) (by omega) (by omega) c
    rw [e, Int.toNat_natCast]
    exact nxa_lt hs ha
/-- M is what is come to from p0 -/
def clo (st : St) (p0 M : Nat) : Prop := M < 2 ^ 36 ∧ M.testBit p0 = true ∧ closed st M ∧ ∀ N, N.testBit p0 = true → closed st N → bsub M N
theorem clo.eq {st : St} {p0 M N : Nat} (h : clo st p0 M) (k : clo st p0 N) : M = N := bsub.eq (h.2.2.2 N k.2.1 k.2.2.1) (k.2.2.2 M h.2.1 h.2.2.1)
/-! counting bits -/
def cntn (M : Nat) : Nat → Nat
  | 0 => 0
  | n + 1 => cntn M n + (if M.testBit n = true then 1 else 0)
theorem cntn_le (M : Nat) : ∀ n, cntn M n ≤ n
  | 0 => Nat.le_refl 0
  | n + 1 => by
    have := cntn_le M n
    show cntn M n + (if M.testBit n = true then 1 else 0) ≤ n + 1
    split <;> omega
theorem cntn_sub {M N : Nat} (h : bsub M N) : ∀ n, cntn M n ≤ cntn N n ∧ (cntn N n ≤ cntn M n → ∀ q, q < n → N.testBit q = true → M.testBit q = true)
  | 0 => ⟨Nat.le_refl 0, fun _ q hq => absurd hq (by omega)⟩
  | n + 1 => by
    obtain ⟨h1, h2⟩ := cntn_sub h n
    have hn := h n
    show cntn M n + (if M.testBit n = true then 1 else 0) ≤ cntn N n + (if N.testBit n = true then 1 else 0) ∧ (cntn N n + (if N.testBit n = true then 1 else 0) ≤ cntn M n + (if M.testBit n = true then 1 else 0) → _)
    by_cases c : M.testBit n = true
    · rw [if_pos c, if_pos (hn c)]
      refine ⟨by omega, fun z q hq hb => ?_⟩
      by_cases e : q = n
      · subst e; exact c
      · exact h2 (by omega) q (by omega) hb
    · rw [if_neg c]
      by_cases c2 : N.testBit n = true
      · rw [if_pos c2]
        exact ⟨by omega, fun z => absurd z (by omega)⟩
      · rw [if_neg c2]
        refine ⟨by omega, fun z q hq hb => ?_⟩
        by_cases e : q = n
        · subst e; exact absurd hb c2
        · exact h2 (by omega) q (by omega) hb
theorem cntn_or {a b : Nat} (h : ∀ q, a.testBit q = true → b.testBit q = false) : ∀ n, cntn (a ||| b) n = cntn a n + cntn b n
  | 0 => rfl
  | n + 1 => by
    have ih := cntn_or h n
    show cntn (a ||| b) n + (if (a ||| b).testBit n = true then 1 else 0) = cntn a n + (if a.testBit n = true then 1 else 0) + (cntn b n + (if b.testBit n = true then 1 else 0))
    rw [ih, Nat.testBit_or]
    by_cases c : a.testBit n = true
    · rw [c, h n c]; simp; omega
    · rw [Bool.eq_false_iff.mpr c]; simp; omega
theorem cntn_pos {M q : Nat} (hq : M.testBit q = true) : ∀ n, q < n → 0 < cntn M n
  | 0, h => absurd h (by omega)
  | n + 1, h => by
    show 0 < cntn M n + (if M.testBit n = true then 1 else 0)
    by_cases e : q = n
    · subst e; rw [if_pos hq]; omega
    · have := cntn_pos hq n (by omega); omega
/-! the reference: 36 times round -/
def mstep (st : St) (M p : Nat) : Nat := if M.testBit p = true then M ||| nxt st p else M
def mrun (st : St) : Nat → Nat → Nat → Nat
  | 0, _, M => M
  | n + 1, k, M => mrun st n (k + 1) (mstep st M (k % 36))
theorem mstep_up (st : St) (M p : Nat) : bsub M (mstep st M p) := by
  unfold mstep
  split
  · exact bsub.orl _ _
  · exact bsub.rf _
theorem mrun_up (st : St) : ∀ n k M, bsub M (mrun st n k M)
  | 0, _, M => bsub.rf M
  | n + 1, k, M => (mstep_up st M _).tr (mrun_up st n (k + 1) _)
theorem mrun_lt {st : St} (hs : Inv st) : ∀ n k M, M < 2 ^ 36 → mrun st n k M < 2 ^ 36
  | 0, _, _, h => h
  | n + 1, k, M, h => by
    refine mrun_lt hs n (k + 1) _ ?_
    unfold mstep
    split
    · exact Nat.or_lt_two_pow h (nxt_lt hs (Nat.mod_lt _ (by omega)))
    · exact h
theorem mrun_least {st : St} {N : Nat} (hN : closed st N) : ∀ n k M, bsub M N → bsub (mrun st n k M) N
  | 0, _, _, h => h
  | n + 1, k, M, h => by
    refine mrun_least hN n (k + 1) _ ?_
    unfold mstep
    split
    · rename_i c
      exact h.or (hN _ (Nat.mod_lt _ (by omega)) (h _ c))
    · exact h
theorem mrun_in {st : St} {p : Nat} (hp : p < 36) : ∀ n k M, k ≤ p → p < k + n → M.testBit p = true → bsub (nxt st p) (mrun st n k M)
  | 0, k, M, h1, h2, _ => absurd h2 (by omega)
  | n + 1, k, M, h1, h2, hb => by
    by_cases e : k = p
    · subst e
      refine bsub.tr ?_ (mrun_up st n (k + 1) _)
      unfold mstep
      rw [Nat.mod_eq_of_lt hp, if_pos hb]
      exact bsub.orr _ _
    · exact mrun_in hp n (k + 1) _ (by omega) (by omega) (mstep_up st M _ p hb)
theorem mrun_per (st : St) : ∀ n k M, mrun st n (k + 36) M = mrun st n k M
  | 0, _, _ => rfl
  | n + 1, k, M => by
    show mrun st n (k + 36 + 1) (mstep st M ((k + 36) % 36)) = mrun st n (k + 1) (mstep st M (k % 36))
    rw [Nat.add_mod_right, show k + 36 + 1 = k + 1 + 36 by omega, mrun_per st n (k + 1)]
theorem mrun_add (st : St) : ∀ a b k M, mrun st (a + b) k M = mrun st b (k + a) (mrun st a k M)
  | 0, b, k, M => by rw [Nat.zero_add]; rfl
  | a + 1, b, k, M => by
    rw [show a + 1 + b = (a + b) + 1 by omega]
    show mrun st (a + b) (k + 1) (mstep st M (k % 36)) = _
    rw [mrun_add st a b, show k + 1 + a = k + (a + 1) by omega]
    rfl
theorem mrun_cnt {st : St} (hs : Inv st) {p0 : Nat} (hp : p0 < 36) : ∀ j, closed st (mrun st (36 * j) 0 (2 ^ p0)) ∨ j + 1 ≤ cntn (mrun st (36 * j) 0 (2 ^ p0)) 36
  | 0 => Or.inr (by
      show 1 ≤ cntn (2 ^ p0) 36
      exact cntn_pos (q := p0) (by simp) 36 hp)
  | j + 1 => by
    have ih := mrun_cnt hs hp j
    have e : mrun st (36 * (j + 1)) 0 (2 ^ p0) = mrun st 36 0 (mrun st (36 * j) 0 (2 ^ p0)) := by
      rw [show 36 * (j + 1) = 36 * j + 36 by omega, mrun_add, Nat.zero_add]
      have per : ∀ i M, mrun st 36 (36 * i) M = mrun st 36 0 M := by
        intro i M
        induction i with
        | zero => rfl
        | succ i hi => rw [show 36 * (i + 1) = 36 * i + 36 by omega, mrun_per, hi]
      exact per j _
    rw [e]
    have hlt := mrun_lt hs (36 * j) 0 (2 ^ p0) (pow_lt36 hp)
    generalize mrun st (36 * j) 0 (2 ^ p0) = M at ih hlt ⊢
    have hlt2 := mrun_lt hs 36 0 M hlt
    obtain ⟨c1, c2⟩ := cntn_sub (mrun_up st 36 0 M) 36
    by_cases c : cntn (mrun st 36 0 M) 36 ≤ cntn M 36
    · have hb : mrun st 36 0 M = M := bsub.eq (fun q hq => c2 c q (bit_lt hlt2 hq) hq) (mrun_up st 36 0 M)
      refine Or.inl (fun p hp' hbit => ?_)
      rw [hb] at hbit ⊢
      have := mrun_in (st := st) hp' 36 0 M (by omega) (by omega) hbit
      rw [hb] at this
      exact this
    · rcases ih with ih | ih
      · exfalso
        apply c
        have hb : bsub (mrun st 36 0 M) M := mrun_least ih 36 0 M (bsub.rf M)
        exact (cntn_sub hb 36).1
      · exact Or.inr (by omega)
theorem mrun_clo {st : St} (hs : Inv st) {p0 : Nat} (hp : p0 < 36) : clo st p0 (mrun st 1296 0 (2 ^ p0)) := by
  refine ⟨mrun_lt hs _ _ _ (pow_lt36 hp), mrun_up st _ _ _ p0 (by simp), ?_, fun N h1 h2 => mrun_least h2 _ _ _ (fun q hq => ?_)⟩
  · rcases mrun_cnt hs hp 36 with h | h
    · exact h
    · have := cntn_le (mrun st (36 * 36) 0 (2 ^ p0)) 36
      omega
  · rw [Nat.testBit_two_pow] at hq
    have : p0 = q := by simpa using hq
    rw [← this]; exact h1
/-! the class: the pairs that wait, one by one -/
def xinv (st : St) (p0 n m w : Nat) : Prop := m < 2 ^ 36 ∧ m.testBit p0 = true ∧ bsub w m ∧ (∀ p, p < 36 → m.testBit p = true → w.testBit p = false → bsub (nxt st p) m) ∧ (∀ N, N.testBit p0 = true → closed st N → bsub m N) ∧ cntn m 36 = cntn w 36 + n
theorem xinv_0 (st : St) {p0 : Nat} (hp : p0 < 36) : xinv st p0 0 (2 ^ p0) (2 ^ p0) := by
  refine ⟨pow_lt36 hp, by simp, bsub.rf _, fun p _ h1 h2 => (by rw [h1] at h2; cases h2), fun N h1 _ q hq => ?_, rfl⟩
  rw [Nat.testBit_two_pow] at hq
  have : p0 = q := by simpa using hq
  rw [← this]; exact h1
theorem xinv_step {st : St} (hs : Inv st) {p0 n m w p m' w' fr : Nat} (h : xinv st p0 n m w) (hp : w.testBit p = true) (hf : ∀ q, fr.testBit q = ((nxt st p).testBit q && !(m.testBit q))) (hm : m' = m ||| fr) (hw : ∀ q, w'.testBit q = ((w.testBit q && decide (q ≠ p)) || fr.testBit q)) : xinv st p0 (n + 1) m' w' := by
  obtain ⟨h1, h2, h3, h4, h5, h6⟩ := h
  subst hm
  have hp36 : p < 36 := bit_lt h1 (h3 p hp)
  have hfn : bsub fr (nxt st p) := fun q hq => by
    rw [hf, Bool.and_eq_true] at hq; exact hq.1
  have hfr : fr < 2 ^ 36 := by
    apply Nat.lt_of_not_le
    intro c
    have hc : ¬ fr < 2 ^ 36 := by omega
    apply hc
    apply Nat.lt_pow_two_of_testBit
    intro i hi
    cases e : fr.testBit i with
    | false => rfl
    | true => exact absurd (bit_lt (nxt_lt hs hp36) (hfn i e)) (by omega)
  have hdis : ∀ q, m.testBit q = true → fr.testBit q = false := fun q hq => by rw [hf, hq]; simp
  refine ⟨Nat.or_lt_two_pow h1 hfr, bsub.orl _ _ _ h2, fun q hq => ?_, fun x hx hx1 hx2 => ?_, fun N hN1 hN2 => ?_, ?_⟩
  · rw [hw, Bool.or_eq_true] at hq
    rcases hq with hq | hq
    · exact bsub.orl _ _ _ (h3 q (by rw [Bool.and_eq_true] at hq; exact hq.1))
    · exact bsub.orr _ _ _ hq
  · rw [hw, Bool.or_eq_false_iff] at hx2
    rw [Nat.testBit_or, hx2.2, Bool.or_false] at hx1
    by_cases e : x = p
    · subst e
      intro q hq
      rw [Nat.testBit_or]
      cases e2 : m.testBit q with
      | true => rfl
      | false => rw [hf, hq, e2]; rfl
    · have hwx : w.testBit x = false := by
        have := hx2.1
        rw [Bool.and_eq_false_iff] at this
        rcases this with z | z
        · exact z
        · simp [e] at z
      exact (h4 x hx hx1 hwx).tr (bsub.orl _ _)
  · have hb := h5 N hN1 hN2
    exact hb.or (hfn.tr (hN2 p hp36 (hb p (h3 p hp))))
  · have e1 : cntn (m ||| fr) 36 = cntn m 36 + cntn fr 36 := cntn_or hdis 36
    -- w is p and the rest
    have key : ∀ k, cntn w' k + (if p < k then 1 else 0) = cntn w k + cntn fr k := by
      intro k
      induction k with
      | zero => rfl
      | succ k ih =>
        show cntn w' k + (if w'.testBit k = true then 1 else 0) + (if p < k + 1 then 1 else 0) = cntn w k + (if w.testBit k = true then 1 else 0) + (cntn fr k + (if fr.testBit k = true then 1 else 0))
        have hwf : w.testBit k = true → fr.testBit k = false := fun z => hdis k (h3 k z)
        by_cases e : k = p
        · subst e
          have hff := hwf hp
          rw [hw, hff, hp]
          simp at ih ⊢
          omega
        · rw [hw]
          have hlt : (p < k + 1) ↔ (p < k) := by omega
          have hde : decide (k ≠ p) = true := by simp [e]
          rw [hde, Bool.and_true]
          cases c1 : w.testBit k with
          | true =>
            rw [hwf c1]
            simp only [Bool.or_false, if_true, hlt]
            simp
            omega
          | false =>
            cases c2 : fr.testBit k with
            | true => simp only [Bool.or_true, if_true, hlt]; simp; omega
            | false => simp only [Bool.or_false, hlt]; simp; omega
    have k36 := key 36
    rw [if_pos hp36] at k36
    omega
theorem xinv_end {st : St} {p0 n m w : Nat} (h : xinv st p0 n m w) (he : w = 0 ∨ 36 ≤ n) : clo st p0 m := by
  obtain ⟨h1, h2, h3, h4, h5, h6⟩ := h
  have hw0 : ∀ q, w.testBit q = false := by
    intro q
    rcases he with rfl | hn
    · simp
    · cases e : w.testBit q with
      | false => rfl
      | true =>
        have := cntn_pos e 36 (bit_lt h1 (h3 q e))
        have := cntn_le m 36
        omega
  exact ⟨h1, h2, fun p hp hb => h4 p hp hb (hw0 p), h5⟩
