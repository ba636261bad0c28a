/-! THE STATE, own words: st f i is place i of the f-th field of the reference (scalars at place 0):
0 parent 1 injectors 2 bufKey 3 bufLazy 4 buffered 5 kind 6 number 7 scope 8 needs 9 needKey 10 needLazy 11 single 12 request 13 oldSingle 14 oldRequest 15 open 16 iKey 17 iInjector 18 iScope 19 iNeeds 20 iNeedKey 21 iLazy 22 iValue 23 made 24 pile 25 got 26 values 27 top -/
abbrev St : Type := Nat → Nat → Int
def sup (st : St) (f i : Nat) (v : Int) : St := fun g => if g = f then iup (st f) i v else st g
theorem sup_s (st : St) (f i : Nat) (v : Int) : sup st f i v f = iup (st f) i v := by simp [sup]
theorem sup_n {st : St} {f i g : Nat} {v : Int} (h : g ≠ f) : sup st f i v g = st g := by simp [sup, h]
def cpn (g : Nat → Int) (b n : Nat) (h : Nat → Int) : Nat → Int := fun j => if b ≤ j ∧ j < b + n then h (j - b) else g j
theorem cpn_in {g h : Nat → Int} {b n j : Nat} (h1 : b ≤ j) (h2 : j < b + n) : cpn g b n h j = h (j - b) := by simp [cpn, h1, h2]
theorem cpn_out {g h : Nat → Int} {b n j : Nat} (h1 : j < b ∨ b + n ≤ j) : cpn g b n h j = g j := by
  unfold cpn
  rw [if_neg (by omega)]
theorem cpn_0 {g h : Nat → Int} {b : Nat} : cpn g b 0 h = g := by
  funext j
  exact cpn_out (by omega)
theorem cpn_1 {g h : Nat → Int} {b n : Nat} : iup (cpn g b n h) (b + n) (h n) = cpn g b (n + 1) h := by
  funext j
  by_cases e : j = b + n
  · subst e
    rw [iup_s, cpn_in (by omega) (by omega), show b + n - b = n by omega]
  · rw [iup_n e]
    by_cases q : b ≤ j ∧ j < b + n
    · rw [cpn_in q.1 q.2, cpn_in q.1 (by omega)]
    · rw [cpn_out (by omega), cpn_out (by omega)]
theorem cpn_congr {g h h' : Nat → Int} {b n : Nat} (e : ∀ k, k < n → h k = h' k) : cpn g b n h = cpn g b n h' := by
  funext j
  by_cases q : b ≤ j ∧ j < b + n
  · rw [cpn_in q.1 q.2, cpn_in q.1 q.2]; exact e _ (by omega)
  · rw [cpn_out (by omega), cpn_out (by omega)]
/-- the pair that is seen, or -1 -/
def snf (st : St) (key : Nat) : Nat → Int → Int
  | 0, _ => -1
  | n + 1, i => if i < 0 then -1 else if st 5 (12 * i.toNat + key) ≠ 0 then 12 * i + key else snf st key n (st 0 i.toNat)
def sn (st : St) (i key : Nat) : Int := snf st key 3 i
def pOK (st : St) : Prop := st 0 0 = -1 ∧ (0 ≤ st 0 1 ∧ st 0 1 < 1) ∧ (0 ≤ st 0 2 ∧ st 0 2 < 2)
theorem pOK.at {st : St} (h : pOK st) {i : Nat} (hi : i < 3) : -1 ≤ st 0 i ∧ st 0 i < i := by
  obtain ⟨h0, h1, h2⟩ := h
  match i, hi with
  | 0, _ => omega
  | 1, _ => omega
  | 2, _ => omega
theorem snf_cases {st : St} (hp : pOK st) (key : Nat) : ∀ (n : Nat) (i : Int), -1 ≤ i → i < 3 → snf st key n i = -1 ∨ ∃ j : Nat, j < 3 ∧ snf st key n i = ((12 * j + key : Nat) : Int) ∧ st 5 (12 * j + key) ≠ 0
  | 0, i, _, _ => Or.inl rfl
  | n + 1, i, h1, h2 => by
    unfold snf
    by_cases hi : i < 0
    · rw [if_pos hi]; exact Or.inl rfl
    · rw [if_neg hi]
      have hlt : i.toNat < 3 := by omega
      by_cases hk : st 5 (12 * i.toNat + key) ≠ 0
      · rw [if_pos hk]
        exact Or.inr ⟨i.toNat, hlt, by omega, hk⟩
      · rw [if_neg hk]
        have := hp.at hlt
        exact snf_cases hp key n _ (by omega) (by omega)
theorem sn_cases {st : St} (hp : pOK st) {i key : Nat} (hi : i < 3) : sn st i key = -1 ∨ ∃ j : Nat, j < 3 ∧ sn st i key = ((12 * j + key : Nat) : Int) ∧ st 5 (12 * j + key) ≠ 0 := snf_cases hp key 3 i (by omega) (by omega)
def kpt (st : St) (p : Nat) : Int := st 11 p + st 12 p
/-- a new instance of the class at p, with the values vs of its needs -/
def mk (st : St) (p : Nat) (vs : Nat → Int) : St := fun f =>
  if f = 11 then (if st 7 p = 1 then iup (st 11) p (st 23 0 + 1) else st 11)
  else if f = 12 then (if st 7 p = 2 then iup (st 12) p (st 23 0 + 1) else st 12)
  else if f = 16 then iup (st 16) (st 23 0).toNat ((p % 12 : Nat) : Int)
  else if f = 17 then iup (st 17) (st 23 0).toNat ((p / 12 : Nat) : Int)
  else if f = 18 then iup (st 18) (st 23 0).toNat (st 7 p)
  else if f = 19 then iup (st 19) (st 23 0).toNat (st 8 p)
  else if f = 20 then cpn (st 20) (4 * (st 23 0).toNat) (st 8 p).toNat (fun k => st 9 (4 * p + k))
  else if f = 21 then cpn (st 21) (4 * (st 23 0).toNat) (st 8 p).toNat (fun k => st 10 (4 * p + k))
  else if f = 22 then cpn (st 22) (4 * (st 23 0).toNat) (st 8 p).toNat vs
  else if f = 23 then iup (st 23) 0 (st 23 0 + 1)
  else st f
/-- the fields that a getting may change -/
def dyn (f : Nat) : Bool := f == 11 || f == 12 || (16 ≤ f && f ≤ 23)
theorem mk_o {st : St} {p : Nat} {vs : Nat → Int} {f : Nat} (h : dyn f = false) : mk st p vs f = st f := by
  simp only [dyn, Bool.or_eq_false_iff, beq_eq_false_iff_ne, Bool.and_eq_false_iff, decide_eq_false_iff_not] at h
  obtain ⟨⟨h1, h2⟩, h3⟩ := h
  unfold mk
  rw [if_neg h1, if_neg h2, if_neg (by omega), if_neg (by omega), if_neg (by omega), if_neg (by omega), if_neg (by omega), if_neg (by omega), if_neg (by omega), if_neg (by omega)]
theorem mk_23 (st : St) (p : Nat) (vs : Nat → Int) : mk st p vs 23 0 = st 23 0 + 1 := by
  show iup (st 23) 0 (st 23 0 + 1) 0 = _
  rw [iup_s]
/-- GETTING, as the document says it: rget's first argument is how many more pairs there may be in work, wk those that are; an error leaves what was made on the way (it is taken back from outside) -/
def rneeds (g : St → Nat → Nat → Int × St) (p : Nat) : Nat → Nat → St → (Nat → Int) → Int × St × (Nat → Int)
  | 0, _, st, vs => (0, st, vs)
  | n + 1, j, st, vs =>
    if st 10 (4 * p + j) = 1 then rneeds g p n (j + 1) st (iup vs j (20000000000 + 16 * ((p / 12 : Nat) : Int) + st 9 (4 * p + j)))
    else if (g st (p / 12) (st 9 (4 * p + j)).toNat).1 < 0 then ((g st (p / 12) (st 9 (4 * p + j)).toNat).1, (g st (p / 12) (st 9 (4 * p + j)).toNat).2, vs)
    else rneeds g p n (j + 1) (g st (p / 12) (st 9 (4 * p + j)).toNat).2 (iup vs j (g st (p / 12) (st 9 (4 * p + j)).toNat).1)
def rend (p : Nat) (r : Int × St × (Nat → Int)) : Int × St :=
  if r.1 < 0 then (r.1, r.2.1) else if r.2.1 23 0 = 100 then (-5, r.2.1) else (r.2.1 23 0, mk r.2.1 p r.2.2)
def rgo (g : St → Nat → Nat → Int × St) (st : St) (p : Nat) : Int × St :=
  if st 5 p = 2 then g st (p / 12) (st 6 p).toNat
  else if st 7 p = 2 ∧ st 15 0 = 0 then (-4, st)
  else rend p (rneeds g p (st 8 p).toNat 0 st (fun _ => 0))
def wadd (wk : Nat → Bool) (p : Nat) : Nat → Bool := fun q => q == p || wk q
def rget : Nat → (Nat → Bool) → St → Nat → Nat → Int × St
  | 0, _, st, _, _ => (-3, st)
  | d + 1, wk, st, i, k =>
    if sn st i k < 0 then (-2, st)
    else if st 5 (sn st i k).toNat = 1 then (10000000000 + st 6 (sn st i k).toNat, st)
    else if kpt st (sn st i k).toNat ≠ 0 then (kpt st (sn st i k).toNat - 1, st)
    else if wk (sn st i k).toNat = true ∨ d = 0 then (-3, st)
    else rgo (rget d (wadd wk (sn st i k).toNat)) st (sn st i k).toNat
/-! what holds of every state -/
def r32 (a : Int) : Prop := -2147483648 ≤ a ∧ a ≤ 2147483647
def Inv (st : St) : Prop :=
  (1 ≤ st 1 0 ∧ st 1 0 ≤ 3) ∧ pOK st ∧ (0 ≤ st 4 0 ∧ st 4 0 ≤ 4) ∧ (∀ j, 0 ≤ st 2 j ∧ st 2 j ≤ 11) ∧ (∀ j, st 3 j = 0 ∨ st 3 j = 1) ∧
  (∀ p, 0 ≤ st 5 p ∧ st 5 p ≤ 3) ∧ (∀ p : Nat, st 5 p ≠ 0 → ((p / 12 : Nat) : Int) < st 1 0) ∧ (∀ p, r32 (st 6 p)) ∧ (∀ p, st 5 p = 2 → 0 ≤ st 6 p ∧ st 6 p ≤ 11) ∧
  (∀ p, 0 ≤ st 7 p ∧ st 7 p ≤ 2) ∧ (∀ p, 0 ≤ st 8 p ∧ st 8 p ≤ 4) ∧ (∀ j, 0 ≤ st 9 j ∧ st 9 j ≤ 11) ∧ (∀ j, st 10 j = 0 ∨ st 10 j = 1) ∧
  (∀ p, 0 ≤ st 11 p ∧ st 11 p ≤ st 23 0) ∧ (∀ p, st 11 p ≠ 0 → st 5 p = 3 ∧ st 7 p = 1) ∧ (∀ p, 0 ≤ st 12 p ∧ st 12 p ≤ st 23 0) ∧ (∀ p, st 12 p ≠ 0 → st 5 p = 3 ∧ st 7 p = 2 ∧ st 15 0 = 1) ∧
  (st 15 0 = 0 ∨ st 15 0 = 1) ∧ (0 ≤ st 23 0 ∧ st 23 0 ≤ 100) ∧
  (∀ i, 0 ≤ st 16 i ∧ st 16 i ≤ 11) ∧ (∀ i, 0 ≤ st 17 i ∧ st 17 i ≤ 2) ∧ (∀ i : Nat, (i : Int) < st 23 0 → st 17 i < st 1 0) ∧ (∀ i, 0 ≤ st 18 i ∧ st 18 i ≤ 2) ∧ (∀ i, 0 ≤ st 19 i ∧ st 19 i ≤ 4) ∧ (∀ j, 0 ≤ st 20 j ∧ st 20 j ≤ 11) ∧ (∀ j, st 21 j = 0 ∨ st 21 j = 1) ∧ (∀ j, 0 ≤ st 22 j ∧ st 22 j ≤ 1000000000000)
theorem Inv.inj {st : St} (h : Inv st) : 1 ≤ st 1 0 ∧ st 1 0 ≤ 3 := h.1
theorem Inv.par {st : St} (h : Inv st) : pOK st := h.2.1
theorem Inv.bn {st : St} (h : Inv st) : 0 ≤ st 4 0 ∧ st 4 0 ≤ 4 := h.2.2.1
theorem Inv.bk {st : St} (h : Inv st) (j : Nat) : 0 ≤ st 2 j ∧ st 2 j ≤ 11 := h.2.2.2.1 j
theorem Inv.bz {st : St} (h : Inv st) (j : Nat) : st 3 j = 0 ∨ st 3 j = 1 := h.2.2.2.2.1 j
theorem Inv.kd {st : St} (h : Inv st) (p : Nat) : 0 ≤ st 5 p ∧ st 5 p ≤ 3 := h.2.2.2.2.2.1 p
theorem Inv.kj {st : St} (h : Inv st) {p : Nat} (hp : st 5 p ≠ 0) : ((p / 12 : Nat) : Int) < st 1 0 := h.2.2.2.2.2.2.1 p hp
theorem Inv.nu {st : St} (h : Inv st) (p : Nat) : r32 (st 6 p) := h.2.2.2.2.2.2.2.1 p
theorem Inv.lk {st : St} (h : Inv st) {p : Nat} (hp : st 5 p = 2) : 0 ≤ st 6 p ∧ st 6 p ≤ 11 := h.2.2.2.2.2.2.2.2.1 p hp
theorem Inv.sc {st : St} (h : Inv st) (p : Nat) : 0 ≤ st 7 p ∧ st 7 p ≤ 2 := h.2.2.2.2.2.2.2.2.2.1 p
theorem Inv.nn {st : St} (h : Inv st) (p : Nat) : 0 ≤ st 8 p ∧ st 8 p ≤ 4 := h.2.2.2.2.2.2.2.2.2.2.1 p
theorem Inv.nk {st : St} (h : Inv st) (j : Nat) : 0 ≤ st 9 j ∧ st 9 j ≤ 11 := h.2.2.2.2.2.2.2.2.2.2.2.1 j
theorem Inv.nz {st : St} (h : Inv st) (j : Nat) : st 10 j = 0 ∨ st 10 j = 1 := h.2.2.2.2.2.2.2.2.2.2.2.2.1 j
theorem Inv.si {st : St} (h : Inv st) (p : Nat) : 0 ≤ st 11 p ∧ st 11 p ≤ st 23 0 := h.2.2.2.2.2.2.2.2.2.2.2.2.2.1 p
theorem Inv.si2 {st : St} (h : Inv st) {p : Nat} (hp : st 11 p ≠ 0) : st 5 p = 3 ∧ st 7 p = 1 := h.2.2.2.2.2.2.2.2.2.2.2.2.2.2.1 p hp
theorem Inv.re {st : St} (h : Inv st) (p : Nat) : 0 ≤ st 12 p ∧ st 12 p ≤ st 23 0 := h.2.2.2.2.2.2.2.2.2.2.2.2.2.2.2.1 p
theorem Inv.re2 {st : St} (h : Inv st) {p : Nat} (hp : st 12 p ≠ 0) : st 5 p = 3 ∧ st 7 p = 2 ∧ st 15 0 = 1 := h.2.2.2.2.2.2.2.2.2.2.2.2.2.2.2.2.1 p hp
theorem Inv.op {st : St} (h : Inv st) : st 15 0 = 0 ∨ st 15 0 = 1 := h.2.2.2.2.2.2.2.2.2.2.2.2.2.2.2.2.2.1
theorem Inv.md {st : St} (h : Inv st) : 0 ≤ st 23 0 ∧ st 23 0 ≤ 100 := h.2.2.2.2.2.2.2.2.2.2.2.2.2.2.2.2.2.2.1
theorem Inv.ik {st : St} (h : Inv st) (i : Nat) : 0 ≤ st 16 i ∧ st 16 i ≤ 11 := h.2.2.2.2.2.2.2.2.2.2.2.2.2.2.2.2.2.2.2.1 i
theorem Inv.ij {st : St} (h : Inv st) (i : Nat) : 0 ≤ st 17 i ∧ st 17 i ≤ 2 := h.2.2.2.2.2.2.2.2.2.2.2.2.2.2.2.2.2.2.2.2.1 i
theorem Inv.ij2 {st : St} (h : Inv st) {i : Nat} (hi : (i : Int) < st 23 0) : st 17 i < st 1 0 := h.2.2.2.2.2.2.2.2.2.2.2.2.2.2.2.2.2.2.2.2.2.1 i hi
theorem Inv.is {st : St} (h : Inv st) (i : Nat) : 0 ≤ st 18 i ∧ st 18 i ≤ 2 := h.2.2.2.2.2.2.2.2.2.2.2.2.2.2.2.2.2.2.2.2.2.2.1 i
theorem Inv.inn {st : St} (h : Inv st) (i : Nat) : 0 ≤ st 19 i ∧ st 19 i ≤ 4 := h.2.2.2.2.2.2.2.2.2.2.2.2.2.2.2.2.2.2.2.2.2.2.2.1 i
theorem Inv.ink {st : St} (h : Inv st) (j : Nat) : 0 ≤ st 20 j ∧ st 20 j ≤ 11 := h.2.2.2.2.2.2.2.2.2.2.2.2.2.2.2.2.2.2.2.2.2.2.2.2.1 j
theorem Inv.iz {st : St} (h : Inv st) (j : Nat) : st 21 j = 0 ∨ st 21 j = 1 := h.2.2.2.2.2.2.2.2.2.2.2.2.2.2.2.2.2.2.2.2.2.2.2.2.2.1 j
theorem Inv.ivv {st : St} (h : Inv st) (j : Nat) : 0 ≤ st 22 j ∧ st 22 j ≤ 1000000000000 := h.2.2.2.2.2.2.2.2.2.2.2.2.2.2.2.2.2.2.2.2.2.2.2.2.2.2 j
theorem Inv.kp {st : St} (h : Inv st) (p : Nat) : 0 ≤ kpt st p ∧ kpt st p ≤ st 23 0 := by
  have h1 := h.si p
  have h2 := h.re p
  unfold kpt
  by_cases e : st 11 p = 0
  · omega
  · by_cases e2 : st 12 p = 0
    · omega
    · have := (h.si2 e).2
      have := (h.re2 e2).2.1
      omega
theorem Inv.seen {st : St} (h : Inv st) {i key : Nat} (hi : i < 3) (hk : key < 12) (hs : ¬ sn st i key < 0) : ∃ p : Nat, p < 36 ∧ sn st i key = (p : Int) ∧ st 5 p ≠ 0 ∧ p % 12 = key := by
  rcases sn_cases h.par (key := key) hi with q | ⟨j, hj, e, hk0⟩
  · omega
  · exact ⟨12 * j + key, by omega, e, hk0, by omega⟩
/-- a new instance keeps what holds -/
theorem Inv.mkI {st : St} (h : Inv st) {p : Nat} {vs : Nat → Int} (hp : p < 36) (h3 : st 5 p = 3) (hno : ¬ (st 7 p = 2 ∧ st 15 0 = 0)) (hm : st 23 0 ≠ 100) (hv : ∀ k, k < 4 → 0 ≤ vs k ∧ vs k ≤ 1000000000000) : Inv (mk st p vs) := by
  have hmd := h.md
  have e23 := mk_23 st p vs
  have o : ∀ f, dyn f = false → mk st p vs f = st f := fun f hf => mk_o hf
  have iu : ∀ (g : Nat → Int) (k : Nat) (v lo hi : Int), (∀ i, lo ≤ g i ∧ g i ≤ hi) → (lo ≤ v ∧ v ≤ hi) → ∀ i, lo ≤ iup g k v i ∧ iup g k v i ≤ hi := by
    intro g k v lo hi h1 h2 i
    by_cases e : i = k
    · subst e; rw [iup_s]; exact h2
    · rw [iup_n e]; exact h1 i
  have hnn := h.nn p
  have cp : ∀ (g w : Nat → Int) (b : Nat) (lo hi : Int), (∀ i, lo ≤ g i ∧ g i ≤ hi) → (∀ k, k < 4 → lo ≤ w k ∧ w k ≤ hi) → ∀ i, lo ≤ cpn g b (st 8 p).toNat w i ∧ cpn g b (st 8 p).toNat w i ≤ hi := by
    intro g w b lo hi h1 h2 i
    by_cases e : b ≤ i ∧ i < b + (st 8 p).toNat
    · rw [cpn_in e.1 e.2]; exact h2 _ (by omega)
    · rw [cpn_out (by omega)]; exact h1 i
  have hsc := h.sc p
  refine ⟨?_, ?_, ?_, ?_, ?_, ?_, ?_, ?_, ?_, ?_, ?_, ?_, ?_, ?_, ?_, ?_, ?_, ?_, ?_, ?_, ?_, ?_, ?_, ?_, ?_, ?_, ?_⟩
  · rw [o 1 rfl]; exact h.inj
  · unfold pOK; rw [o 0 rfl]; exact h.par
  · rw [o 4 rfl]; exact h.bn
  · rw [o 2 rfl]; exact h.bk
  · rw [o 3 rfl]; exact h.bz
  · rw [o 5 rfl]; exact h.kd
  · rw [o 5 rfl, o 1 rfl]; exact fun _ => h.kj
  · rw [o 6 rfl]; exact h.nu
  · rw [o 5 rfl, o 6 rfl]; exact fun _ => h.lk
  · rw [o 7 rfl]; exact h.sc
  · rw [o 8 rfl]; exact h.nn
  · rw [o 9 rfl]; exact h.nk
  · rw [o 10 rfl]; exact h.nz
  · rw [e23]
    intro q
    have hq := h.si q
    show 0 ≤ (if st 7 p = 1 then iup (st 11) p (st 23 0 + 1) else st 11) q ∧ (if st 7 p = 1 then iup (st 11) p (st 23 0 + 1) else st 11) q ≤ _
    by_cases c : st 7 p = 1
    · rw [if_pos c]
      by_cases e : q = p
      · subst e; rw [iup_s]; omega
      · rw [iup_n e]; omega
    · rw [if_neg c]; omega
  · rw [o 5 rfl, o 7 rfl]
    intro q
    show (if st 7 p = 1 then iup (st 11) p (st 23 0 + 1) else st 11) q ≠ 0 → _
    by_cases c : st 7 p = 1
    · rw [if_pos c]
      by_cases e : q = p
      · subst e; exact fun _ => ⟨h3, c⟩
      · rw [iup_n e]; exact h.si2
    · rw [if_neg c]; exact h.si2
  · rw [e23]
    intro q
    have hq := h.re q
    show 0 ≤ (if st 7 p = 2 then iup (st 12) p (st 23 0 + 1) else st 12) q ∧ (if st 7 p = 2 then iup (st 12) p (st 23 0 + 1) else st 12) q ≤ _
    by_cases c : st 7 p = 2
    · rw [if_pos c]
      by_cases e : q = p
      · subst e; rw [iup_s]; omega
      · rw [iup_n e]; omega
    · rw [if_neg c]; omega
  · rw [o 5 rfl, o 7 rfl, o 15 rfl]
    intro q
    show (if st 7 p = 2 then iup (st 12) p (st 23 0 + 1) else st 12) q ≠ 0 → _
    by_cases c : st 7 p = 2
    · rw [if_pos c]
      by_cases e : q = p
      · subst e
        exact fun _ => ⟨h3, c, by rcases h.op with z | z
                                  · exact absurd ⟨c, z⟩ hno
                                  · exact z⟩
      · rw [iup_n e]; exact h.re2
    · rw [if_neg c]; exact h.re2
  · rw [o 15 rfl]; exact h.op
  · rw [e23]; omega
  · exact iu (st 16) _ _ 0 11 h.ik (by omega)
  · exact iu (st 17) _ _ 0 2 h.ij (by omega)
  · rw [e23, o 1 rfl]
    intro i hi
    show iup (st 17) (st 23 0).toNat ((p / 12 : Nat) : Int) i < _
    by_cases e : i = (st 23 0).toNat
    · rw [e, iup_s]; exact h.kj (by omega)
    · rw [iup_n e]; exact h.ij2 (by omega)
  · exact iu (st 18) _ _ 0 2 h.is hsc
  · exact iu (st 19) _ _ 0 4 h.inn hnn
  · exact cp (st 20) _ _ 0 11 h.ink (fun k _ => h.nk _)
  · intro j
    have z := cp (st 21) (fun k => st 10 (4 * p + k)) (4 * (st 23 0).toNat) 0 1 (fun i => by have := h.iz i; omega) (fun k _ => by have := h.nz (4 * p + k); omega) j
    show cpn (st 21) (4 * (st 23 0).toNat) (st 8 p).toNat (fun k => st 10 (4 * p + k)) j = 0 ∨ cpn (st 21) (4 * (st 23 0).toNat) (st 8 p).toNat (fun k => st 10 (4 * p + k)) j = 1
    omega
  · exact cp (st 22) vs _ 0 1000000000000 h.ivv hv
