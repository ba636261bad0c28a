/-! the lowest bit, 32-bit words -/
theorem bx_mod32 (n : Nat) : Int32.ofInt ((n : Nat) : Int) = Int32.ofInt ((n % 2 ^ 32 : Nat) : Int) := by
  apply Int32.toBitVec_inj.mp
  show BitVec.ofNat 32 n = BitVec.ofNat 32 (n % 2 ^ 32)
  apply BitVec.eq_of_toNat_eq
  rw [BitVec.toNat_ofNat, BitVec.toNat_ofNat, Nat.mod_mod]
theorem bx_and32 {a b : Nat} (ha : a < 2 ^ 32) (hb : b < 2 ^ 32) : Int32.ofInt ((a : Nat) : Int) &&& Int32.ofInt ((b : Nat) : Int) = Int32.ofInt ((a &&& b : Nat) : Int) := by
  apply Int32.toBitVec_inj.mp
  show BitVec.ofNat 32 a &&& BitVec.ofNat 32 b = BitVec.ofNat 32 (a &&& b)
  apply BitVec.eq_of_toNat_eq
  rw [BitVec.toNat_and, BitVec.toNat_ofNat, BitVec.toNat_ofNat, BitVec.toNat_ofNat, Nat.mod_eq_of_lt ha, Nat.mod_eq_of_lt hb, Nat.mod_eq_of_lt (Nat.and_lt_two_pow _ hb)]
theorem bx_xor32 {a b : Nat} (ha : a < 2 ^ 32) (hb : b < 2 ^ 32) : Int32.ofInt ((a : Nat) : Int) ^^^ Int32.ofInt ((b : Nat) : Int) = Int32.ofInt ((a ^^^ b : Nat) : Int) := by
  apply Int32.toBitVec_inj.mp
  show BitVec.ofNat 32 a ^^^ BitVec.ofNat 32 b = BitVec.ofNat 32 (a ^^^ b)
  apply BitVec.eq_of_toNat_eq
  rw [BitVec.toNat_xor, BitVec.toNat_ofNat, BitVec.toNat_ofNat, BitVec.toNat_ofNat, Nat.mod_eq_of_lt ha, Nat.mod_eq_of_lt hb, Nat.mod_eq_of_lt (Nat.xor_lt_two_pow ha hb)]
theorem bx_xor {a b : Nat} (ha : a < 2 ^ 64) (hb : b < 2 ^ 64) : Int64.ofInt ((a : Nat) : Int) ^^^ Int64.ofInt ((b : Nat) : Int) = Int64.ofInt ((a ^^^ b : Nat) : Int) := by
  apply Int64.toBitVec_inj.mp
  show BitVec.ofNat 64 a ^^^ BitVec.ofNat 64 b = BitVec.ofNat 64 (a ^^^ b)
  apply BitVec.eq_of_toNat_eq
  rw [BitVec.toNat_xor, BitVec.toNat_ofNat, BitVec.toNat_ofNat, BitVec.toNat_ofNat, Nat.mod_eq_of_lt ha, Nat.mod_eq_of_lt hb, Nat.mod_eq_of_lt (Nat.xor_lt_two_pow ha hb)]
theorem bx_cu32 : ∀ k, k < 32 → ((Int32.ofInt ((k : Nat) : Int)).toUInt32 &&& Int32.toUInt32 31) = UInt32.ofNat k := by decide +kernel
theorem bx_shr32 {n k : Nat} (hn : n < 2 ^ 32) (hk : k < 32) : ((Int32.ofInt ((n : Nat) : Int)).toUInt32 >>> ((Int32.ofInt ((k : Nat) : Int)).toUInt32 &&& Int32.toUInt32 31)).toInt32 = Int32.ofInt ((n / 2 ^ k : Nat) : Int) := by
  rw [bx_cu32 k hk]
  apply Int32.toBitVec_inj.mp
  apply BitVec.eq_of_toNat_eq
  show ((Int32.ofInt ((n : Nat) : Int)).toUInt32 >>> UInt32.ofNat k).toNat = (BitVec.ofNat 32 _).toNat
  have h1 : (UInt32.ofNat k).toNat = k := by
    show (BitVec.ofNat 32 k).toNat = k
    rw [BitVec.toNat_ofNat, Nat.mod_eq_of_lt (by omega)]
  have h2 : (Int32.ofInt ((n : Nat) : Int)).toUInt32.toNat = n := by
    show (BitVec.ofNat 32 n).toNat = n
    rw [BitVec.toNat_ofNat, Nat.mod_eq_of_lt hn]
  rw [UInt32.toNat_shiftRight, h1, h2, Nat.mod_eq_of_lt hk, Nat.shiftRight_eq_div_pow, BitVec.toNat_ofNat, Nat.mod_eq_of_lt (Nat.lt_of_le_of_lt (Nat.div_le_self _ _) hn)]
def lb (w t : Nat) : Prop := w.testBit t = true ∧ ∀ j, j < t → w.testBit j = false
theorem lb_ex {w : Nat} (h : w ≠ 0) : ∃ t, lb w t := by
  obtain ⟨i, hi⟩ := Nat.exists_testBit_of_ne_zero h
  have main : ∀ n i, i ≤ n → w.testBit i = true → ∃ t, lb w t := by
    intro n
    induction n with
    | zero => intro i h1 h2; exact ⟨0, by rw [show i = 0 from by omega] at h2; exact h2, fun j hj => absurd hj (by omega)⟩
    | succ n ih =>
      intro i h1 h2
      by_cases c : ∃ j, j < i ∧ w.testBit j = true
      · obtain ⟨j, c1, c2⟩ := c
        exact ih j (by omega) c2
      · refine ⟨i, h2, fun j hj => ?_⟩
        rw [← Bool.not_eq_true]
        exact fun z => c ⟨j, hj, z⟩
  exact main i i (Nat.le_refl i) hi
theorem lb_form {w t : Nat} (h : lb w t) : ∃ m, w = 2 ^ t * (2 * m) + 2 ^ t := by
  have h0 : w % 2 ^ t = 0 := by
    apply Nat.eq_of_testBit_eq
    intro j
    rw [Nat.testBit_mod_two_pow, Nat.zero_testBit]
    by_cases c : j < t
    · rw [h.2 j c, Bool.and_false]
    · rw [decide_eq_false c, Bool.false_and]
  have h1 : (w / 2 ^ t) % 2 = 1 := by
    have e : (w / 2 ^ t).testBit 0 = true := by rw [Nat.testBit_div_two_pow, Nat.zero_add]; exact h.1
    rw [Nat.testBit_zero] at e
    exact of_decide_eq_true e
  have h2 := Nat.div_add_mod w (2 ^ t)
  refine ⟨w / 2 ^ t / 2, ?_⟩
  have h3 : w / 2 ^ t = 2 * (w / 2 ^ t / 2) + 1 := by omega
  calc w = 2 ^ t * (w / 2 ^ t) := by omega
    _ = 2 ^ t * (2 * (w / 2 ^ t / 2) + 1) := by rw [← h3]
    _ = _ := by rw [Nat.mul_add, Nat.mul_one]
theorem lb_pred {w t : Nat} (h : lb w t) (j : Nat) : (w - 1).testBit j = if j < t then true else if j = t then false else w.testBit j := by
  obtain ⟨m, e⟩ := lb_form h
  have hp : 0 < 2 ^ t := Nat.two_pow_pos t
  have e1 : w - 1 = 2 ^ t * (2 * m) + (2 ^ t - 1) := by omega
  rw [e1, Nat.testBit_two_pow_mul_add (2 * m) (by omega)]
  by_cases c : j < t
  · rw [if_pos c, if_pos c, Nat.testBit_two_pow_sub_one, decide_eq_true c]
  · rw [if_neg c, if_neg c]
    by_cases c2 : j = t
    · rw [if_pos c2, c2, Nat.sub_self, Nat.testBit_zero]
      exact decide_eq_false (by omega)
    · rw [if_neg c2]
      have e2 : w = 2 ^ t * (2 * m + 1) + 0 := by rw [Nat.mul_add, Nat.mul_one, Nat.add_zero]; exact e
      rw [e2, Nat.testBit_two_pow_mul_add (2 * m + 1) hp, if_neg c]
      obtain ⟨k, hk⟩ : ∃ k, j - t = k + 1 := ⟨j - t - 1, by omega⟩
      rw [hk, Nat.testBit_succ, Nat.testBit_succ]
      congr 1
      omega
theorem lb_pos {w t : Nat} (h : lb w t) : 0 < w := by
  apply Nat.pos_of_ne_zero
  rintro rfl
  have := h.1
  rw [Nat.zero_testBit] at this
  cases this
theorem lb_low {w t : Nat} (h : lb w t) (hw : w < 2 ^ 32) (ht : t < 32) : (w ^^^ (2 ^ 32 - 1)) &&& (w - 1) = 2 ^ t - 1 := by
  apply Nat.eq_of_testBit_eq
  intro j
  rw [Nat.testBit_and, Nat.testBit_xor, Nat.testBit_two_pow_sub_one, Nat.testBit_two_pow_sub_one, lb_pred h]
  by_cases c : j < t
  · rw [if_pos c, h.2 j c, decide_eq_true c, decide_eq_true (show j < 32 by omega)]; rfl
  · rw [if_neg c, decide_eq_false c]
    by_cases c2 : j = t
    · rw [if_pos c2, Bool.and_false]
    · rw [if_neg c2]
      by_cases c3 : j < 32
      · rw [decide_eq_true c3]; cases w.testBit j <;> rfl
      · have : w.testBit j = false := by
          rw [← Bool.not_eq_true]
          exact fun z => c3 (bit_lt hw z)
        rw [this, Bool.and_false]
theorem lb_clear {w t : Nat} (h : lb w t) (q : Nat) : (w &&& (w - 1)).testBit q = (w.testBit q && decide (q ≠ t)) := by
  rw [Nat.testBit_and, lb_pred h]
  by_cases c : q < t
  · rw [h.2 q c, Bool.false_and, Bool.false_and]
  · rw [if_neg c]
    by_cases c2 : q = t
    · rw [if_pos c2, decide_eq_false (fun z => z c2)]
    · rw [if_neg c2, decide_eq_true c2, Bool.and_self, Bool.and_true]
theorem lb_mod {w t : Nat} (h : lb w t) (ht : t < 32) : lb (w % 2 ^ 32) t := ⟨by rw [Nat.testBit_mod_two_pow, h.1, decide_eq_true ht]; rfl, fun j hj => by rw [Nat.testBit_mod_two_pow, h.2 j hj, Bool.and_false]⟩
theorem lb_div {w t : Nat} (h : lb w t) (ht : 32 ≤ t) : lb (w / 2 ^ 32) (t - 32) := ⟨by rw [Nat.testBit_div_two_pow, show t - 32 + 32 = t from by omega]; exact h.1, fun j hj => by rw [Nat.testBit_div_two_pow]; exact h.2 _ (by omega)⟩
theorem lb_z {w t : Nat} (h : lb w t) : w % 2 ^ 32 = 0 ↔ 32 ≤ t := by
  constructor
  · intro z
    apply Classical.byContradiction
    intro c
    have := lb_pos (lb_mod h (by omega))
    omega
  · intro c
    apply Nat.eq_of_testBit_eq
    intro j
    rw [Nat.testBit_mod_two_pow, Nat.zero_testBit]
    by_cases c2 : j < 32
    · rw [h.2 j (by omega), Bool.and_false]
    · rw [decide_eq_false c2, Bool.false_and]
theorem ksm_bit (M j : Nat) : ∀ n, (ksm M n).testBit j = true ↔ ∃ q, q < n ∧ M.testBit q = true ∧ q % 12 = j
  | 0 => by
    constructor
    · intro h
      rw [show ksm M 0 = 0 from rfl, Nat.zero_testBit] at h
      cases h
    · rintro ⟨q, h, -⟩
      omega
  | n + 1 => by
    have ih := ksm_bit M j n
    show (if M.testBit n = true then ksm M n ||| 2 ^ (n % 12) else ksm M n).testBit j = true ↔ _
    by_cases c : M.testBit n = true
    · rw [if_pos c, Nat.testBit_or, Bool.or_eq_true, ih, Nat.testBit_two_pow]
      constructor
      · rintro (⟨q, h1, h2⟩ | h)
        · exact ⟨q, by omega, h2⟩
        · exact ⟨n, by omega, c, of_decide_eq_true h⟩
      · rintro ⟨q, h1, h2, h3⟩
        by_cases e : q = n
        · subst e; exact Or.inr (decide_eq_true h3)
        · exact Or.inl ⟨q, by omega, h2, h3⟩
    · rw [if_neg c, ih]
      constructor
      · rintro ⟨q, h1, h2⟩
        exact ⟨q, by omega, h2⟩
      · rintro ⟨q, h1, h2, h3⟩
        have : q ≠ n := fun e => c (by rw [← e]; exact h2)
        exact ⟨q, by omega, h2, h3⟩
theorem ksm_or (M : Nat) : (((0 ||| M / 2 ^ 0) ||| M / 2 ^ 12) ||| M / 2 ^ 24) % 2 ^ 32 &&& 4095 = ksm M 36 := by
  have e12 : (4095 : Nat) = 2 ^ 12 - 1 := by decide
  apply Nat.eq_of_testBit_eq
  intro j
  by_cases c : j < 12
  · rw [e12, Nat.testBit_and, Nat.testBit_mod_two_pow, Nat.testBit_or, Nat.testBit_or, Nat.testBit_or, Nat.zero_testBit, Nat.testBit_div_two_pow, Nat.testBit_div_two_pow, Nat.testBit_div_two_pow, Nat.testBit_two_pow_sub_one, decide_eq_true c, decide_eq_true (show j < 32 by omega), Bool.and_true, Bool.true_and, Bool.false_or, Nat.add_zero]
    rw [Bool.eq_iff_iff, ksm_bit, Bool.or_eq_true, Bool.or_eq_true]
    constructor
    · rintro ((h | h) | h)
      · exact ⟨j, by omega, h, by omega⟩
      · exact ⟨j + 12, by omega, h, by omega⟩
      · exact ⟨j + 24, by omega, h, by omega⟩
    · rintro ⟨q, h1, h2, h3⟩
      have : q = j ∨ q = j + 12 ∨ q = j + 24 := by omega
      rcases this with rfl | rfl | rfl
      · exact Or.inl (Or.inl h2)
      · exact Or.inl (Or.inr h2)
      · exact Or.inr h2
  · rw [e12, Nat.testBit_and, Nat.testBit_two_pow_sub_one, decide_eq_false c, Bool.and_false]
    symm
    rw [← Bool.not_eq_true]
    exact fun z => c (bit_lt (ksm_lt M 36) z)
def ntz4 (x n : Nat) : Nat := n + x / 2 ^ 1
def ntz3 (x n : Nat) : Nat := if 4 < x then ntz4 (x / 2 ^ 2) (n + 2) else ntz4 x n
def ntz2 (x n : Nat) : Nat := if 16 < x then ntz3 (x / 2 ^ 4) (n + 4) else ntz3 x n
def ntz1 (x n : Nat) : Nat := if 256 < x then ntz2 (x / 2 ^ 8) (n + 8) else ntz2 x n
def ntz0 (x n : Nat) : Nat := if 65536 < x then ntz1 (x / 2 ^ 16) (n + 16) else ntz1 x n
theorem ntz_ok : ∀ t, t < 32 → 0 < t → ntz0 (2 ^ t - 1) 1 = t := by decide +kernel
def nxk (b : Nat) (kf : Nat → Int) : Nat → Nat
  | 0 => 0
  | n + 1 => nxk b kf n ||| 2 ^ (b * 12 + (kf n).toNat)
theorem nxk_nxn {s : St} {a : Nat} {kf : Nat → Int} : ∀ n : Nat, (∀ j, j < n → kf j = s 9 (4 * a + j)) → nxk (a / 12) kf n = nxn s a n
  | 0, _ => rfl
  | n + 1, h => by
    show nxk (a / 12) kf n ||| 2 ^ (a / 12 * 12 + (kf n).toNat) = nxn s a n ||| 2 ^ (a / 12 * 12 + (s 9 (4 * a + n)).toNat)
    rw [nxk_nxn n (fun j hj => h j (by omega)), h n (by omega)]
theorem nxk_lt {b : Nat} {kf : Nat → Int} (hb : b < 3) (hk : ∀ j, 0 ≤ kf j ∧ kf j ≤ 11) : ∀ n, nxk b kf n < 2 ^ 36
  | 0 => by show 0 < 2 ^ 36; decide
  | n + 1 => by
    have := hk n
    exact Nat.or_lt_two_pow (nxk_lt hb hk n) (pow_lt36 (by omega))
section ZB2
variable {K : zC} {D : va_G} {cl : List vw_C} {A : Nat → Prop} {tys : List (ClassId × FieldType)} {F : State → Prop} {rm : Room} {cc : ByteArray} {own nm : String} {Ts : List Cond} {nL : Nat} {ret : Option FieldType} {Q : State → Prop} {cells slots pc : Nat} {σ : zh} {lv : List (Option Value)} {st : List Value}
theorem z_ldcw (C : zCx K D cl A tys F rm cc own nm Ts nL ret) {index : Nat} (a : Int) (hw : Cond.constant own index (Int32.ofInt a) ∈ Ts) (hd : decode cc pc = .ok (.ldc_w index, 3)) (k : zJ K D cl A nL Q (cells) (slots) (σ) (pc + 3) (lv) (iv a :: st)) : zJ K D cl A nL Q (cells) (slots) (σ) (pc) (lv) (st) := by
  obtain ⟨p, l, e, R, s, m, args, below, meth, c⟩ := K
  intro H locs ls hG hS hL
  exact lv_ldcw C.1 C.2.1 C.2.2.2.1 (C.2.2.2.2.1 _ hw) hd (k H locs ls hG hS hL)
theorem z_bixor1 (C : zCx K D cl A tys F rm cc own nm Ts nL ret) {a : Nat} (ha : a < 2 ^ 32) (hd : decode cc pc = .ok (.ixor, 1)) (kk : zJ K D cl A nL Q cells slots σ (pc + 1) lv (iv ((a ^^^ (2 ^ 32 - 1) : Nat) : Int) :: st)) : zJ K D cl A nL Q cells slots σ pc lv (iv (-1) :: iv ((a : Nat) : Int) :: st) := by
  refine z_ixor C hd ?_
  rw [show Int32.ofInt (-1) = Int32.ofInt (((2 ^ 32 - 1 : Nat)) : Int) from by decide, bx_xor32 ha (by decide)]
  exact kk
theorem z_bxor1 (C : zCx K D cl A tys F rm cc own nm Ts nL ret) {a : Nat} (ha : a < 2 ^ 64) (hd : decode cc pc = .ok (.lxor, 1)) (kk : zJ K D cl A nL Q cells slots σ (pc + 1) lv (jv ((a ^^^ (2 ^ 64 - 1) : Nat) : Int) :: st)) : zJ K D cl A nL Q cells slots σ pc lv (jv (-1) :: jv ((a : Nat) : Int) :: st) := by
  refine z_lxor C hd ?_
  rw [show Int64.ofInt (-1) = Int64.ofInt (((2 ^ 64 - 1 : Nat)) : Int) from by decide, bx_xor ha (by decide)]
  exact kk
theorem z_biand (C : zCx K D cl A tys F rm cc own nm Ts nL ret) {a b : Nat} (ha : a < 2 ^ 32) (hb : b < 2 ^ 32) (hd : decode cc pc = .ok (.iand, 1)) (kk : zJ K D cl A nL Q cells slots σ (pc + 1) lv (iv ((a &&& b : Nat) : Int) :: st)) : zJ K D cl A nL Q cells slots σ pc lv (iv ((b : Nat) : Int) :: iv ((a : Nat) : Int) :: st) := by
  refine z_iand C hd ?_
  rw [bx_and32 ha hb]
  exact kk
theorem z_biushr (C : zCx K D cl A tys F rm cc own nm Ts nL ret) {a : Nat} {x : Int} (k : Nat) (hx : x = (k : Int)) (ha : a < 2 ^ 32) (hk : k < 32) (hd : decode cc pc = .ok (.iushr, 1)) (kk : zJ K D cl A nL Q cells slots σ (pc + 1) lv (iv ((a / 2 ^ k : Nat) : Int) :: st)) : zJ K D cl A nL Q cells slots σ pc lv (iv x :: iv ((a : Nat) : Int) :: st) := by
  subst hx
  refine z_iushr C hd ?_
  rw [bx_shr32 ha hk]
  exact kk
end ZB2
