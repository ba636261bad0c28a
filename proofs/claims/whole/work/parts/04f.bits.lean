/-! ===== lN n to 2^64: shifts, and, or, masks, one bit ===== -/
theorem wb_tb (n : Nat) : (lN n).toBitVec = BitVec.ofNat 64 n := rfl
theorem wb_inj {a b : Int64} (h : a.toBitVec = b.toBitVec) : a = b := Int64.toBitVec_inj.mp h
theorem wb_tn {n : Nat} (h : n < 2 ^ 64) : (lN n).toBitVec.toNat = n := by rw [wb_tb, BitVec.toNat_ofNat, Nat.mod_eq_of_lt h]
theorem wb_of (x : Int64) : ∃ n, n < 2 ^ 64 ∧ x = lN n := ⟨x.toBitVec.toNat, x.toBitVec.isLt, wb_inj (by rw [wb_tb]; simp)⟩
theorem wb_of32 (x : Int32) : ∃ n, n < 2 ^ 32 ∧ x = nI n := ⟨x.toBitVec.toNat, x.toBitVec.isLt, Int32.toBitVec_inj.mp (by show _ = BitVec.ofNat 32 _; simp)⟩
theorem wb_c : ∀ k, k < 64 → ((nI k).toInt64 &&& 63) = lN k := by decide +kernel
theorem wb_cu : ∀ k, k < 64 → ((nI k).toInt64.toUInt64 &&& Int64.toUInt64 63) = UInt64.ofNat k := by decide +kernel
theorem wb_sm : ∀ k, k < 64 → (BitVec.ofNat 64 k).smod 64 = BitVec.ofNat 64 k := by decide +kernel
theorem wb_pw {a b : Nat} (h : a ≤ b) : 2 ^ b = 2 ^ a * 2 ^ (b - a) := by rw [← Nat.pow_add]; congr 1; omega
theorem wb_lt2 {a b : Nat} (h : a < b) : 2 ^ a < 2 ^ b := Nat.pow_lt_pow_right (by decide) h
theorem wb_mod (n : Nat) : lN n = lN (n % 2 ^ 64) := wb_inj (by rw [wb_tb, wb_tb]; apply BitVec.eq_of_toNat_eq; rw [BitVec.toNat_ofNat, BitVec.toNat_ofNat, Nat.mod_mod])
theorem wb_shr {n k : Nat} (hn : n < 2 ^ 64) (hk : k < 64) : ((lN n).toUInt64 >>> ((nI k).toInt64.toUInt64 &&& Int64.toUInt64 63)).toInt64 = lN (n / 2 ^ k) := by
  rw [wb_cu k hk]
  apply wb_inj
  apply BitVec.eq_of_toNat_eq
  show ((lN n).toUInt64 >>> UInt64.ofNat k).toNat = (BitVec.ofNat 64 _).toNat
  have h1 : (UInt64.ofNat k).toNat = k := by
    show (BitVec.ofNat 64 k).toNat = k
    rw [BitVec.toNat_ofNat, Nat.mod_eq_of_lt (by omega)]
  have h2 : (lN n).toUInt64.toNat = n := wb_tn hn
  rw [UInt64.toNat_shiftRight, h1, h2, Nat.mod_eq_of_lt hk, Nat.shiftRight_eq_div_pow, BitVec.toNat_ofNat, Nat.mod_eq_of_lt (Nat.lt_of_le_of_lt (Nat.div_le_self _ _) hn)]
theorem wb_shl (n : Nat) {k : Nat} (hk : k < 64) : lN n <<< ((nI k).toInt64 &&& 63) = lN (n * 2 ^ k) := by
  rw [wb_c k hk]
  apply wb_inj
  rw [Int64.toBitVec_shiftLeft, wb_tb, wb_tb, wb_tb, wb_sm k hk]
  apply BitVec.eq_of_toNat_eq
  rw [BitVec.shiftLeft_eq', BitVec.toNat_shiftLeft, BitVec.toNat_ofNat, BitVec.toNat_ofNat, BitVec.toNat_ofNat, Nat.mod_eq_of_lt (show k < 2 ^ 64 by omega), Nat.shiftLeft_eq, Nat.mul_mod, Nat.mod_mod, ← Nat.mul_mod]
theorem wb_and {a b : Nat} (ha : a < 2 ^ 64) (hb : b < 2 ^ 64) : lN a &&& lN b = lN (a &&& b) := by
  apply wb_inj
  rw [Int64.toBitVec_and, wb_tb, wb_tb, wb_tb]
  apply BitVec.eq_of_toNat_eq
  rw [BitVec.toNat_and, BitVec.toNat_ofNat, BitVec.toNat_ofNat, BitVec.toNat_ofNat, Nat.mod_eq_of_lt ha, Nat.mod_eq_of_lt hb, Nat.mod_eq_of_lt (Nat.and_lt_two_pow _ hb)]
theorem wb_or {a b : Nat} (ha : a < 2 ^ 64) (hb : b < 2 ^ 64) : lN a ||| lN b = lN (a ||| b) := by
  apply wb_inj
  rw [Int64.toBitVec_or, wb_tb, wb_tb, wb_tb]
  apply BitVec.eq_of_toNat_eq
  rw [BitVec.toNat_or, BitVec.toNat_ofNat, BitVec.toNat_ofNat, BitVec.toNat_ofNat, Nat.mod_eq_of_lt ha, Nat.mod_eq_of_lt hb, Nat.mod_eq_of_lt (Nat.or_lt_two_pow ha hb)]
/-! rows on masks (own) -/
theorem bx_and {a b : Nat} (ha : a < 2 ^ 64) (hb : b < 2 ^ 64) : Int64.ofInt ((a : Nat) : Int) &&& Int64.ofInt ((b : Nat) : Int) = Int64.ofInt ((a &&& b : Nat) : Int) := wb_and ha hb
theorem bx_or {a b : Nat} (ha : a < 2 ^ 64) (hb : b < 2 ^ 64) : Int64.ofInt ((a : Nat) : Int) ||| Int64.ofInt ((b : Nat) : Int) = Int64.ofInt ((a ||| b : Nat) : Int) := wb_or ha hb
theorem bx_shl {k : Nat} (hk : k < 64) : Int64.ofInt 1 <<< ((Int32.ofInt ((k : Nat) : Int)).toInt64 &&& 63) = Int64.ofInt ((2 ^ k : Nat) : Int) := by
  have h := wb_shl 1 hk
  rw [Nat.one_mul] at h
  exact h
theorem bx_shr {n k : Nat} (hn : n < 2 ^ 64) (hk : k < 64) : ((Int64.ofInt ((n : Nat) : Int)).toUInt64 >>> ((Int32.ofInt ((k : Nat) : Int)).toInt64.toUInt64 &&& Int64.toUInt64 63)).toInt64 = Int64.ofInt ((n / 2 ^ k : Nat) : Int) := wb_shr hn hk
theorem bx_or32 {a b : Nat} (ha : a < 2 ^ 32) (hb : b < 2 ^ 32) : Int32.ofInt ((a : Nat) : Int) ||| Int32.ofInt ((b : Nat) : Int) = Int32.ofInt ((a ||| b : Nat) : Int) := by
  apply Int32.toBitVec_inj.mp
  show BitVec.ofNat 32 a ||| BitVec.ofNat 32 b = BitVec.ofNat 32 (a ||| b)
  apply BitVec.eq_of_toNat_eq
  rw [BitVec.toNat_or, BitVec.toNat_ofNat, BitVec.toNat_ofNat, BitVec.toNat_ofNat, Nat.mod_eq_of_lt ha, Nat.mod_eq_of_lt hb, Nat.mod_eq_of_lt (Nat.or_lt_two_pow ha hb)]
theorem bx_shl32 : ∀ k, k < 12 → Int32.ofInt 1 <<< (Int32.ofInt ((k : Nat) : Int) &&& 31) = Int32.ofInt ((2 ^ k : Nat) : Int) := by decide +kernel
theorem bit0 (M p : Nat) : M &&& 2 ^ p = 0 ↔ ¬ M.testBit p = true := by
  constructor
  · intro h hb
    have e : (M &&& 2 ^ p).testBit p = true := by rw [Nat.testBit_and, hb, Nat.testBit_two_pow]; simp
    rw [h] at e
    simp at e
  · intro h
    apply Nat.eq_of_testBit_eq
    intro i
    rw [Nat.testBit_and, Nat.testBit_two_pow, Nat.zero_testBit]
    by_cases e : p = i
    · subst e; rw [Bool.eq_false_iff.mpr h]; rfl
    · simp [e]
section ZB
variable {K : zC} {D : va_G} {cl : List vw_C} {A : Nat → Prop} {tys : List (ClassId × FieldType)} {F : State → Prop} {rm : Room} {cc : ByteArray} {own nm : String} {Ts : List Cond} {nL : Nat} {ret : Option FieldType} {Q : State → Prop} {cells slots pc : Nat} {σ : zh} {lv : List (Option Value)} {st : List Value}
theorem z_bshl (C : zCx K D cl A tys F rm cc own nm Ts nL ret) {x : Int} (k : Nat) (hx : x = (k : Int)) (hk : k < 64) (hd : decode cc pc = .ok (.lshl, 1)) (kk : zJ K D cl A nL Q cells slots σ (pc + 1) lv (jv ((2 ^ k : Nat) : Int) :: st)) : zJ K D cl A nL Q cells slots σ pc lv (iv x :: jv 1 :: st) := by
  subst hx
  refine z_lshl C hd ?_
  rw [bx_shl hk]
  exact kk
theorem z_band (C : zCx K D cl A tys F rm cc own nm Ts nL ret) {a b : Nat} (ha : a < 2 ^ 64) (hb : b < 2 ^ 64) (hd : decode cc pc = .ok (.land, 1)) (kk : zJ K D cl A nL Q cells slots σ (pc + 1) lv (jv ((a &&& b : Nat) : Int) :: st)) : zJ K D cl A nL Q cells slots σ pc lv (jv ((b : Nat) : Int) :: jv ((a : Nat) : Int) :: st) := by
  refine z_land C hd ?_
  rw [bx_and ha hb]
  exact kk
theorem z_bor (C : zCx K D cl A tys F rm cc own nm Ts nL ret) {a b : Nat} (ha : a < 2 ^ 64) (hb : b < 2 ^ 64) (hd : decode cc pc = .ok (.lor, 1)) (kk : zJ K D cl A nL Q cells slots σ (pc + 1) lv (jv ((a ||| b : Nat) : Int) :: st)) : zJ K D cl A nL Q cells slots σ pc lv (jv ((b : Nat) : Int) :: jv ((a : Nat) : Int) :: st) := by
  refine z_lor C hd ?_
  rw [bx_or ha hb]
  exact kk
theorem z_bushr (C : zCx K D cl A tys F rm cc own nm Ts nL ret) {a : Nat} {x : Int} (k : Nat) (hx : x = (k : Int)) (ha : a < 2 ^ 64) (hk : k < 64) (hd : decode cc pc = .ok (.lushr, 1)) (kk : zJ K D cl A nL Q cells slots σ (pc + 1) lv (jv ((a / 2 ^ k : Nat) : Int) :: st)) : zJ K D cl A nL Q cells slots σ pc lv (iv x :: jv ((a : Nat) : Int) :: st) := by
  subst hx
  refine z_lushr C hd ?_
  rw [bx_shr ha hk]
  exact kk
theorem z_bior (C : zCx K D cl A tys F rm cc own nm Ts nL ret) {a b : Nat} (ha : a < 2 ^ 32) (hb : b < 2 ^ 32) (hd : decode cc pc = .ok (.ior, 1)) (kk : zJ K D cl A nL Q cells slots σ (pc + 1) lv (iv ((a ||| b : Nat) : Int) :: st)) : zJ K D cl A nL Q cells slots σ pc lv (iv ((b : Nat) : Int) :: iv ((a : Nat) : Int) :: st) := by
  refine z_ior C hd ?_
  rw [bx_or32 ha hb]
  exact kk
theorem z_bishl (C : zCx K D cl A tys F rm cc own nm Ts nL ret) {x : Int} (k : Nat) (hx : x = (k : Int)) (hk : k < 12) (hd : decode cc pc = .ok (.ishl, 1)) (kk : zJ K D cl A nL Q cells slots σ (pc + 1) lv (iv ((2 ^ k : Nat) : Int) :: st)) : zJ K D cl A nL Q cells slots σ pc lv (iv x :: iv 1 :: st) := by
  subst hx
  refine z_ishl C hd ?_
  rw [bx_shl32 k hk]
  exact kk
end ZB
def ksm (M : Nat) : Nat → Nat
  | 0 => 0
  | n + 1 => if M.testBit n = true then ksm M n ||| 2 ^ (n % 12) else ksm M n
theorem ksm_lt (M : Nat) : ∀ n, ksm M n < 2 ^ 12
  | 0 => by show 0 < 2 ^ 12; decide
  | n + 1 => by
    show (if M.testBit n = true then ksm M n ||| 2 ^ (n % 12) else ksm M n) < 2 ^ 12
    split
    · exact Nat.or_lt_two_pow (ksm_lt M n) (Nat.pow_lt_pow_right (by omega) (Nat.mod_lt _ (by omega)))
    · exact ksm_lt M n
theorem mrun_s (s : St) (k M : Nat) : mrun s (k + 1) 0 M = mstep s (mrun s k 0 M) (k % 36) := by
  rw [mrun_add, Nat.zero_add]
  rfl
