/-! THE REFERENCE'S MACHINE: what begin, make, work, took and gets do to the state -/
def wkg (st : St) (p : Nat) : Bool := (List.range (st 27 0).toNat).any fun k => decide (st 24 k = (p : Int))
def mpush (st : St) (p : Nat) : St := sup (sup (sup st 24 (st 27 0).toNat p) 25 (st 27 0).toNat 0) 27 0 (st 27 0 + 1)
def mbeginp (st : St) (p : Nat) : Int × St :=
  if st 5 p = 1 then (10000000000 + st 6 p, st)
  else if st 5 p = 3 ∧ st 7 p = 1 ∧ st 11 p ≠ 0 then (st 11 p - 1, st)
  else if st 5 p = 3 ∧ st 7 p = 2 ∧ st 15 0 ≠ 0 ∧ st 12 p ≠ 0 then (st 12 p - 1, st)
  else if wkg st p = true then (-3, st)
  else if st 5 p = 3 ∧ st 7 p = 2 ∧ st 15 0 = 0 then (-4, st)
  else (-100, mpush st p)
def mbegin (st : St) (i k : Nat) : Int × St := if sn st i k < 0 then (-2, st) else mbeginp st (sn st i k).toNat
def mmake (st : St) (p w : Nat) : Int × St := if st 23 0 = 100 then (-5, st) else (st 23 0, mk st p (fun k => st 26 (4 * w + k)))
def mone (st : St) (p me : Nat) : Int × St := if st 10 (4 * p + (st 25 me).toNat) = 1 then (20000000000 + 16 * ((p / 12 : Nat) : Int) + st 9 (4 * p + (st 25 me).toNat), st) else mbegin st (p / 12) (st 9 (4 * p + (st 25 me).toNat)).toNat
def mput (st : St) (me : Nat) (v : Int) : St := sup (sup st 26 (4 * me + (st 25 me).toNat) v) 25 me (st 25 me + 1)
def mneeds (p me : Nat) : Nat → St → Int × St
  | 0, st => mmake st p me
  | n + 1, st => if (mone st p me).1 < 0 then mone st p me else mneeds p me n (mput (mone st p me).2 me (mone st p me).1)
def mworkp (st : St) (me p : Nat) : Int × St :=
  if st 5 p = 2 then (if st 25 me = 0 then mbegin st (p / 12) (st 6 p).toNat else (st 26 (4 * me), st)) else mneeds p me (st 8 p - st 25 me).toNat st
def mwork (st : St) : Int × St := mworkp st (st 27 0 - 1).toNat (st 24 (st 27 0 - 1).toNat).toNat
def mtk (st : St) (v : Int) : St := sup (sup st 26 (4 * (st 27 0 - 1).toNat) v) 25 (st 27 0 - 1).toNat 1
def mpop (st : St) : St := sup st 27 0 (st 27 0 - 1)
def mdel (st : St) (v : Int) : St := mput st (st 27 0 - 1).toNat v
def mcont (rec : Int → St → Int × St) (w : Int × St) (tp : Int) : Int × St :=
  if w.1 < 0 then rec w.1 w.2
  else if w.2 27 0 = tp ∧ w.2 5 (w.2 24 (w.2 27 0 - 1).toNat).toNat = 2 ∧ w.2 25 (w.2 27 0 - 1).toNat = 0 then rec w.1 (mtk w.2 w.1)
  else if mpop w.2 27 0 = 0 then (w.1, mpop w.2)
  else rec w.1 (mdel (mpop w.2) w.1)
def mloop : Nat → Int → St → Int × St
  | 0, v, st => (v, st)
  | n + 1, v, st => if st 27 0 ≤ 0 then (v, st) else if v < 0 ∧ v ≠ -100 then (v, st) else mcont (mloop n) (mwork st) (st 27 0)
def mgets (st : St) (i k : Nat) : Int × St := mloop 100000 (mbegin (sup st 27 0 0) i k).1 (mbegin (sup st 27 0 0) i k).2
/-! pigeons -/
theorem pig : ∀ (n : Nat) (f : Nat → Nat), (∀ j, j < n + 1 → f j < n) → ∃ i j, i < j ∧ j < n + 1 ∧ f i = f j
  | 0, f, h => absurd (h 0 (by omega)) (by omega)
  | n + 1, f, h => by
    by_cases c : ∃ i, i < n + 1 ∧ f i = f (n + 1)
    · obtain ⟨i, hi, e⟩ := c
      exact ⟨i, n + 1, hi, by omega, e⟩
    · have hne : ∀ i, i < n + 1 → f i ≠ f (n + 1) := fun i hi e => c ⟨i, hi, e⟩
      obtain ⟨i, j, hij, hj, e⟩ := pig n (fun j => if f j = n then f (n + 1) else f j) (by
        intro j hj
        have h1 := h j (by omega)
        have h2 := h (n + 1) (by omega)
        have h3 := hne j hj
        show (if f j = n then f (n + 1) else f j) < n
        split <;> omega)
      have h1 := hne i (by omega)
      have h2 := hne j (by omega)
      have e : (if f i = n then f (n + 1) else f i) = (if f j = n then f (n + 1) else f j) := e
      refine ⟨i, j, hij, by omega, ?_⟩
      split at e <;> split at e <;> omega
/-- n different numbers under n are all of them -/
theorem pig_all {n : Nat} {f : Nat → Nat} (hf : ∀ j, j < n → f j < n) (inj : ∀ i j, i < n → j < n → f i = f j → i = j) {q : Nat} (hq : q < n) : ∃ j, j < n ∧ f j = q := by
  apply Classical.byContradiction
  intro hc
  have hne : ∀ j, j < n → f j ≠ q := fun j hj e => hc ⟨j, hj, e⟩
  match n, hq with
  | m + 1, hq =>
    obtain ⟨i, j, hij, hj, e⟩ := pig m (fun j => if f j = m then q else f j) (by
      intro j hj
      have h1 := hf j hj
      have h2 := hne j hj
      show (if f j = m then q else f j) < m
      split
      · have := hne j hj; omega
      · omega)
    have e : (if f i = m then q else f i) = (if f j = m then q else f j) := e
    have h1 := hne i (by omega)
    have h2 := hne j (by omega)
    have := inj i j (by omega) (by omega) (by split at e <;> split at e <;> omega)
    omega
/-! the machine follows the getting -/
def sem (m s : St) : Prop := ∀ f, f < 24 ∨ 27 < f → m f = s f
def low (t : Nat) (a b : St) : Prop := ∀ j, j < t → a 24 j = b 24 j ∧ a 25 j = b 25 j ∧ ∀ k, k < 4 → a 26 (4 * j + k) = b 26 (4 * j + k)
theorem low.tr {t : Nat} {a b c : St} (h : low t a b) (k : low t b c) : low t a c := fun j hj => ⟨(h j hj).1.trans (k j hj).1, (h j hj).2.1.trans (k j hj).2.1, fun i hi => ((h j hj).2.2 i hi).trans ((k j hj).2.2 i hi)⟩
def PF (m : St) (t : Nat) (wk : Nat → Bool) : Prop := m 27 0 = t ∧ (∀ j, j < t → 0 ≤ m 24 j ∧ m 24 j < 36) ∧ (∀ i j, i < t → j < t → m 24 i = m 24 j → i = j) ∧ ∀ q : Nat, wk q = true ↔ ∃ j, j < t ∧ m 24 j = (q : Int)
theorem PF.low {m m' : St} {t : Nat} {wk : Nat → Bool} (h : PF m t wk) (ht : m' 27 0 = t) (hl : ∀ j, j < t → m' 24 j = m 24 j) : PF m' t wk := by
  refine ⟨ht, fun j hj => by rw [hl j hj]; exact h.2.1 j hj, fun i j hi hj e => h.2.2.1 i j hi hj (by rw [← hl i hi, ← hl j hj]; exact e), fun q => (h.2.2.2 q).trans ⟨fun ⟨j, hj, e⟩ => ⟨j, hj, by rw [hl j hj]; exact e⟩, fun ⟨j, hj, e⟩ => ⟨j, hj, by rw [← hl j hj]; exact e⟩⟩⟩
theorem wkg_iff {m : St} {t : Nat} {wk : Nat → Bool} (h : PF m t wk) (q : Nat) : wkg m q = true ↔ wk q = true := by
  rw [h.2.2.2 q]
  unfold wkg
  rw [h.1, Int.toNat_natCast, List.any_eq_true]
  constructor
  · rintro ⟨k, hk, e⟩
    exact ⟨k, List.mem_range.mp hk, of_decide_eq_true e⟩
  · rintro ⟨k, hk, e⟩
    exact ⟨k, List.mem_range.mpr hk, decide_eq_true e⟩
theorem PF.push {m : St} {t q : Nat} {wk : Nat → Bool} (h : PF m t wk) (hq : q < 36) (hw : ¬ wk q = true) : PF (mpush m q) (t + 1) (wadd wk q) := by
  obtain ⟨h1, h2, h3, h4⟩ := h
  have e24 : mpush m q 24 = iup (m 24) t q := by
    show iup (m 24) (m 27 0).toNat q = _
    rw [h1, Int.toNat_natCast]
  have hnot : ∀ j, j < t → m 24 j ≠ (q : Int) := fun j hj e => hw ((h4 q).mpr ⟨j, hj, e⟩)
  refine ⟨?_, fun j hj => ?_, fun i j hi hj e => ?_, fun x => ?_⟩
  · show iup (m 27) 0 (m 27 0 + 1) 0 = _
    rw [iup_s, h1]; omega
  · rw [e24]
    by_cases c : j = t
    · subst c; rw [iup_s]; omega
    · rw [iup_n c]; exact h2 j (by omega)
  · rw [e24] at e
    by_cases ci : i = t
    · by_cases cj : j = t
      · omega
      · subst ci
        rw [iup_s, iup_n cj] at e
        exact absurd e.symm (hnot j (by omega))
    · by_cases cj : j = t
      · subst cj
        rw [iup_s, iup_n ci] at e
        exact absurd e (hnot i (by omega))
      · rw [iup_n ci, iup_n cj] at e
        exact h3 i j (by omega) (by omega) e
  · unfold wadd
    rw [Bool.or_eq_true, beq_iff_eq, h4 x, e24]
    constructor
    · rintro (rfl | ⟨j, hj, e⟩)
      · exact ⟨t, by omega, iup_s _ _ _⟩
      · exact ⟨j, by omega, by rw [iup_n (by omega)]; exact e⟩
    · rintro ⟨j, hj, e⟩
      by_cases c : j = t
      · subst c
        rw [iup_s] at e
        exact Or.inl (by omega)
      · rw [iup_n c] at e
        exact Or.inr ⟨j, by omega, e⟩
theorem sem_push {m s : St} {q : Nat} (h : sem m s) : sem (mpush m q) s := by
  intro f hf
  unfold mpush
  rw [sup_n (by omega), sup_n (by omega), sup_n (by omega)]
  exact h f hf
theorem snf_congr {a b : St} (h0 : a 0 = b 0) (h5 : a 5 = b 5) (key : Nat) : ∀ (n : Nat) (i : Int), snf a key n i = snf b key n i
  | 0, _ => rfl
  | n + 1, i => by
    unfold snf
    rw [h0, h5, snf_congr h0 h5 key n]
theorem sn_congr {a b : St} (h0 : a 0 = b 0) (h5 : a 5 = b 5) (i key : Nat) : sn a i key = sn b i key := snf_congr h0 h5 key 3 i
/-- begin, beside the getting -/
theorem beg {s m : St} {t d i k : Nat} {wk : Nat → Bool} (hs : Inv s) (hm : sem m s) (hP : PF m t wk) (htd : t + d = 36) (hi : i < 3) (hk : k < 12) :
    (mbegin m i k = ((rget (d + 1) wk s i k).1, m) ∧ (rget (d + 1) wk s i k).2 = s ∧ (rget (d + 1) wk s i k).1 ≠ -100) ∨
    ∃ q : Nat, q < 36 ∧ mbegin m i k = (-100, mpush m q) ∧ rget (d + 1) wk s i k = rgo (rget d (wadd wk q)) s q ∧ (s 5 q = 2 ∨ s 5 q = 3) ∧ ¬ (s 5 q = 3 ∧ s 7 q = 2 ∧ s 15 0 = 0) ∧ 0 < d ∧ ¬ wk q = true := by
  unfold mbegin
  rw [sn_congr (hm 0 (by omega)) (hm 5 (by omega))]
  by_cases c : sn s i k < 0
  · unfold rget
    rw [if_pos c, if_pos c]
    exact Or.inl ⟨rfl, rfl, by show (-2 : Int) ≠ -100; omega⟩
  · rw [if_neg c]
    obtain ⟨p, hp, e, h0, -⟩ := hs.seen hi hk c
    have hkd := hs.kd p
    have hsi := hs.si p
    have hre := hs.re p
    have hkp := hs.kp p
    have hnu := hs.nu p
    unfold r32 at hnu
    have key : rget (d + 1) wk s i k = if s 5 p = 1 then (10000000000 + s 6 p, s) else if kpt s p ≠ 0 then (kpt s p - 1, s) else if wk p = true ∨ d = 0 then (-3, s) else rgo (rget d (wadd wk p)) s p := by
      show (if sn s i k < 0 then _ else _) = _
      rw [if_neg c, e, Int.toNat_natCast]
    rw [key, e, Int.toNat_natCast]
    unfold mbeginp
    rw [hm 5 (by omega), hm 6 (by omega), hm 7 (by omega), hm 11 (by omega), hm 12 (by omega), hm 15 (by omega)]
    by_cases c1 : s 5 p = 1
    · rw [if_pos c1, if_pos c1]
      exact Or.inl ⟨rfl, rfl, by show 10000000000 + s 6 p ≠ -100; omega⟩
    · rw [if_neg c1, if_neg c1]
      by_cases c2 : s 11 p = 0
      · by_cases c3 : s 12 p = 0
        · have hk0 : kpt s p = 0 := by unfold kpt; omega
          rw [if_neg (fun z => z.2.2 c2), if_neg (fun z => z.2.2.2 c3), if_neg (show ¬ (kpt s p ≠ 0) from fun z => z hk0)]
          by_cases c4 : wk p = true
          · rw [if_pos (show wk p = true ∨ d = 0 from Or.inl c4), if_pos ((wkg_iff hP p).mpr c4)]
            exact Or.inl ⟨rfl, rfl, by show (-3 : Int) ≠ -100; omega⟩
          · have hd : d ≠ 0 := by
              intro hd
              apply c4
              rw [hP.2.2.2 p]
              obtain ⟨j, hj, ej⟩ := pig_all (n := t) (f := fun j => (m 24 j).toNat) (fun j hj => by have := hP.2.1 j hj; show (m 24 j).toNat < t; omega) (fun a b ha hb eab => hP.2.2.1 a b ha hb (by have := hP.2.1 a ha; have := hP.2.1 b hb; have eab : (m 24 a).toNat = (m 24 b).toNat := eab; omega)) (show p < t by omega)
              have := hP.2.1 j hj
              have ej : (m 24 j).toNat = p := ej
              exact ⟨j, hj, by omega⟩
            rw [if_neg (show ¬ (wk p = true ∨ d = 0) from fun z => z.elim c4 hd), if_neg (show ¬ wkg m p = true from fun z => c4 ((wkg_iff hP p).mp z))]
            by_cases c5 : s 5 p = 3 ∧ s 7 p = 2 ∧ s 15 0 = 0
            · rw [if_pos c5]
              have er : rgo (rget d (wadd wk p)) s p = (-4, s) := by
                unfold rgo
                rw [if_neg (by omega), if_pos c5.2]
              rw [er]
              exact Or.inl ⟨rfl, rfl, by show (-4 : Int) ≠ -100; omega⟩
            · rw [if_neg c5]
              exact Or.inr ⟨p, hp, rfl, rfl, by omega, c5, by omega, c4⟩
        · obtain ⟨g1, g2, g3⟩ := hs.re2 c3
          have hk0 : kpt s p = s 12 p := by unfold kpt; omega
          rw [if_neg (fun z => z.2.2 c2), if_pos ⟨g1, g2, by omega, c3⟩, if_pos (by rw [hk0]; exact c3), hk0]
          exact Or.inl ⟨rfl, rfl, by show s 12 p - 1 ≠ -100; omega⟩
      · obtain ⟨g1, g2⟩ := hs.si2 c2
        have c3 : s 12 p = 0 := by
          apply Classical.byContradiction
          intro z
          have := (hs.re2 z).2.1
          omega
        have hk0 : kpt s p = s 11 p := by unfold kpt; omega
        rw [if_pos ⟨g1, g2, c2⟩, if_pos (by rw [hk0]; exact c2), hk0]
        exact Or.inl ⟨rfl, rfl, by show s 11 p - 1 ≠ -100; omega⟩
def mfin (n t : Nat) (v : Int) (m : St) : Int × St := if t = 0 then (v, m) else mloop n v (mdel m v)
def SIMp (d : Nat) : Prop := ∀ (wk : Nat → Bool) (s m : St) (p t : Nat), Inv s → sem m s → PF m (t + 1) wk → t + d = 36 → p < 36 → m 24 t = (p : Int) → m 25 t = 0 → (s 5 p = 2 ∨ s 5 p = 3) → ¬ (s 5 p = 3 ∧ s 7 p = 2 ∧ s 15 0 = 0) → 0 < d →
  ∃ (c : Nat) (m' : St),
    (0 ≤ (rgo (rget d wk) s p).1 → sem m' (rgo (rget d wk) s p).2 ∧ m' 27 0 = t ∧ low t m' m ∧ (c : Int) + 300 * s 23 0 ≤ 2 * d + 300 * (rgo (rget d wk) s p).2 23 0 ∧ ∀ n, mloop (c + n) (-100) m = mfin n t (rgo (rget d wk) s p).1 m') ∧
    ((rgo (rget d wk) s p).1 < 0 → sem m' (rgo (rget d wk) s p).2 ∧ (c : Int) + 300 * s 23 0 ≤ 300 * d + 300 * (rgo (rget d wk) s p).2 23 0 ∧ ∀ n, mloop (c + n) (-100) m = ((rgo (rget d wk) s p).1, m'))
theorem mloop_err {n : Nat} {v : Int} {m : St} (h1 : v < 0) (h2 : v ≠ -100) : mloop (1 + n) v m = (v, m) := by
  rw [show 1 + n = n + 1 by omega]
  unfold mloop
  by_cases c : m 27 0 ≤ 0
  · rw [if_pos c]
  · rw [if_neg c, if_pos ⟨h1, h2⟩]
theorem mloop_go {n : Nat} {v : Int} {m : St} (ht : 0 < m 27 0) (hv : ¬ (v < 0 ∧ v ≠ -100)) : mloop (n + 1) v m = mcont (mloop n) (mwork m) (m 27 0) := by
  show (if m 27 0 ≤ 0 then _ else _) = _
  rw [if_neg (by omega), if_neg hv]
theorem mpop_27 (m : St) : mpop m 27 0 = m 27 0 - 1 := by
  show iup (m 27) 0 (m 27 0 - 1) 0 = _
  rw [iup_s]
theorem mcont_neg {rec : Int → St → Int × St} {w : Int × St} {tp : Int} (h : w.1 < 0) : mcont rec w tp = rec w.1 w.2 := by
  unfold mcont
  rw [if_pos h]
/-- the top is taken off -/
theorem mcont_pop {n t : Nat} {w : Int × St} (h : 0 ≤ w.1) (ht : w.2 27 0 = (t : Int) + 1) (hno : ¬ (w.2 5 (w.2 24 t).toNat = 2 ∧ w.2 25 t = 0)) : mcont (mloop n) w ((t : Int) + 1) = mfin n t w.1 (mpop w.2) := by
  have e : (w.2 27 0 - 1).toNat = t := by omega
  unfold mcont mfin
  rw [if_neg (by omega), if_neg (fun z => hno (by rw [e] at z; exact z.2)), mpop_27]
  by_cases c : t = 0
  · rw [if_pos (by omega), if_pos c]
  · rw [if_neg (by omega), if_neg c]
theorem sem_mput {m s : St} (h : sem m s) (me : Nat) (v : Int) : sem (mput m me v) s := by
  intro f hf
  unfold mput
  rw [sup_n (by omega), sup_n (by omega)]
  exact h f hf
theorem mput_24 (m : St) (me : Nat) (v : Int) : mput m me v 24 = m 24 := rfl
theorem mput_27 (m : St) (me : Nat) (v : Int) : mput m me v 27 = m 27 := rfl
theorem mput_25 (m : St) (me : Nat) (v : Int) : mput m me v 25 = iup (m 25) me (m 25 me + 1) := rfl
theorem mput_26 (m : St) (me : Nat) (v : Int) : mput m me v 26 = iup (m 26) (4 * me + (m 25 me).toNat) v := rfl
theorem low_mput {m : St} {t : Nat} (v : Int) : low t (mput m t v) m := by
  intro j hj
  refine ⟨rfl, ?_, fun k hk => ?_⟩
  · rw [mput_25, iup_n (by omega)]
  · rw [mput_26, iup_n (by omega)]
theorem stat_mput {m : St} (t : Nat) (v : Int) : ∀ f, f < 24 ∨ 27 < f → mput m t v f = m f := fun f hf => sem_mput (s := m) (fun _ _ => rfl) t v f hf
theorem mwork_at {m : St} {t p : Nat} (ht : m 27 0 = (t : Int) + 1) (hp : m 24 t = (p : Int)) : mwork m = mworkp m t p := by
  unfold mwork
  rw [show (m 27 0 - 1).toNat = t by omega, hp, Int.toNat_natCast]
theorem sem_mk {m s : St} {p : Nat} {v1 v2 : Nat → Int} (h : sem m s) (hv : ∀ k, k < (s 8 p).toNat → v1 k = v2 k) : sem (mk m p v1) (mk s p v2) := by
  intro f hf
  unfold mk
  rw [h 7 (by omega), h 8 (by omega), h 9 (by omega), h 10 (by omega), h 11 (by omega), h 12 (by omega), h 16 (by omega), h 17 (by omega), h 18 (by omega), h 19 (by omega), h 20 (by omega), h 21 (by omega), h 22 (by omega), h 23 (by omega), h f hf, cpn_congr hv]
theorem NEED {d t p : Nat} {wk : Nat → Bool} (hd : t + (d + 1) = 36) (ih : SIMp d) (hp : p < 36) : ∀ (n j : Nat) (s m : St) (vs : Nat → Int), Inv s → sem m s → PF m (t + 1) wk → m 24 t = (p : Int) → m 25 t = (j : Int) → s 8 p = (j : Int) + n → s 5 p = 3 → (∀ k, k < j → m 26 (4 * t + k) = vs k) → (∀ k, 0 ≤ vs k ∧ vs k ≤ 1000000000000) →
    ∃ (c : Nat) (m' : St),
      (0 ≤ (rend p (rneeds (rget (d + 1) wk) p n j s vs)).1 → sem m' (rend p (rneeds (rget (d + 1) wk) p n j s vs)).2 ∧ m' 27 0 = t ∧ low t m' m ∧ (c : Int) + 300 * s 23 0 + 300 ≤ 71 * n + 300 * (rend p (rneeds (rget (d + 1) wk) p n j s vs)).2 23 0 ∧ ∀ n', mcont (mloop (c + n')) (mneeds p t n m) ((t : Int) + 1) = mfin n' t (rend p (rneeds (rget (d + 1) wk) p n j s vs)).1 m') ∧
      ((rend p (rneeds (rget (d + 1) wk) p n j s vs)).1 < 0 → sem m' (rend p (rneeds (rget (d + 1) wk) p n j s vs)).2 ∧ (c : Int) + 300 * s 23 0 ≤ 1 + 71 * n + 300 * d + 300 * (rend p (rneeds (rget (d + 1) wk) p n j s vs)).2 23 0 ∧ ∀ n', mcont (mloop (c + n')) (mneeds p t n m) ((t : Int) + 1) = ((rend p (rneeds (rget (d + 1) wk) p n j s vs)).1, m')) := by
  intro n
  induction n with
  | zero =>
    intro j s m vs hs hm hP h24 h25 h8 h5 hv hr
    have e1 : rneeds (rget (d + 1) wk) p 0 j s vs = (0, s, vs) := rfl
    have e2 : mneeds p t 0 m = mmake m p t := rfl
    rw [e1, e2]
    have hmd := hs.md
    by_cases c : s 23 0 = 100
    · have e3 : rend p (0, s, vs) = (-5, s) := by
        unfold rend
        rw [if_neg (by show ¬ (0 : Int) < 0; omega), if_pos c]
      have e4 : mmake m p t = (-5, m) := by
        unfold mmake
        rw [hm 23 (by omega), if_pos c]
      rw [e3, e4]
      refine ⟨1, m, fun z => absurd z (by show ¬ (0 : Int) ≤ -5; omega), fun _ => ⟨hm, ?_, fun n' => ?_⟩⟩
      · show ((1 : Nat) : Int) + 300 * s 23 0 ≤ 1 + 71 * ((0 : Nat) : Int) + 300 * d + 300 * s 23 0
        omega
      · rw [mcont_neg (by show (-5 : Int) < 0; omega)]
        exact mloop_err (by show (-5 : Int) < 0; omega) (by show (-5 : Int) ≠ -100; omega)
    · have e3 : rend p (0, s, vs) = (s 23 0, mk s p vs) := by
        unfold rend
        rw [if_neg (by show ¬ (0 : Int) < 0; omega), if_neg c]
      have e4 : mmake m p t = (s 23 0, mk m p (fun k => m 26 (4 * t + k))) := by
        unfold mmake
        rw [hm 23 (by omega), if_neg c]
      rw [e3, e4]
      refine ⟨0, mpop (mk m p (fun k => m 26 (4 * t + k))), fun _ => ⟨?_, ?_, ?_, ?_, fun n' => ?_⟩, fun z => absurd z (by show ¬ s 23 0 < 0; omega)⟩
      · intro f hf
        unfold mpop
        rw [sup_n (by omega)]
        exact sem_mk hm (fun k hk => hv k (by omega)) f hf
      · rw [mpop_27, mk_o rfl, hP.1]; omega
      · intro j' hj'
        exact ⟨rfl, rfl, fun _ _ => rfl⟩
      · show ((0 : Nat) : Int) + 300 * s 23 0 + 300 ≤ 71 * ((0 : Nat) : Int) + 300 * mk s p vs 23 0
        rw [mk_23]; omega
      · rw [Nat.zero_add]
        refine mcont_pop (w := (s 23 0, mk m p (fun k => m 26 (4 * t + k)))) (by show 0 ≤ s 23 0; omega) (by show mk m p (fun k => m 26 (4 * t + k)) 27 0 = _; rw [mk_o rfl, hP.1]; omega) ?_
        intro z
        have z1 := z.1
        have e5 : mk m p (fun k => m 26 (4 * t + k)) 24 = m 24 := mk_o rfl
        have e6 : mk m p (fun k => m 26 (4 * t + k)) 5 = m 5 := mk_o rfl
        change mk m p (fun k => m 26 (4 * t + k)) 5 (mk m p (fun k => m 26 (4 * t + k)) 24 t).toNat = 2 at z1
        rw [e5, e6, h24, Int.toNat_natCast, hm 5 (by omega)] at z1
        omega
  | succ n ihn =>
    intro j s m vs hs hm hP h24 h25 h8 h5 hv hr
    have hj4 := hs.nn p
    have hk9 := hs.nk (4 * p + j)
    have eg : (m 25 t).toNat = j := by omega
    -- a value that is there at once
    have now : ∀ v : Int, 0 ≤ v → v ≤ 1000000000000 → mone m p t = (v, m) → rneeds (rget (d + 1) wk) p (n + 1) j s vs = rneeds (rget (d + 1) wk) p n (j + 1) s (iup vs j v) → ∃ (c : Nat) (m' : St),
      (0 ≤ (rend p (rneeds (rget (d + 1) wk) p (n + 1) j s vs)).1 → sem m' (rend p (rneeds (rget (d + 1) wk) p (n + 1) j s vs)).2 ∧ m' 27 0 = t ∧ low t m' m ∧ (c : Int) + 300 * s 23 0 + 300 ≤ 71 * ((n + 1 : Nat) : Int) + 300 * (rend p (rneeds (rget (d + 1) wk) p (n + 1) j s vs)).2 23 0 ∧ ∀ n', mcont (mloop (c + n')) (mneeds p t (n + 1) m) ((t : Int) + 1) = mfin n' t (rend p (rneeds (rget (d + 1) wk) p (n + 1) j s vs)).1 m') ∧
      ((rend p (rneeds (rget (d + 1) wk) p (n + 1) j s vs)).1 < 0 → sem m' (rend p (rneeds (rget (d + 1) wk) p (n + 1) j s vs)).2 ∧ (c : Int) + 300 * s 23 0 ≤ 1 + 71 * ((n + 1 : Nat) : Int) + 300 * d + 300 * (rend p (rneeds (rget (d + 1) wk) p (n + 1) j s vs)).2 23 0 ∧ ∀ n', mcont (mloop (c + n')) (mneeds p t (n + 1) m) ((t : Int) + 1) = ((rend p (rneeds (rget (d + 1) wk) p (n + 1) j s vs)).1, m')) := by
      intro v v0 v1 e1 e2
      have e3 : mneeds p t (n + 1) m = mneeds p t n (mput m t v) := by
        show (if (mone m p t).1 < 0 then _ else _) = _
        rw [e1, if_neg (by show ¬ v < 0; omega)]
      rw [e2, e3]
      obtain ⟨c, m', g1, g2⟩ := ihn (j + 1) s (mput m t v) (iup vs j v) hs (sem_mput hm t v) (hP.low (by rw [mput_27]; exact hP.1) (fun _ _ => rfl)) h24 (by rw [mput_25, iup_s, h25]; omega) (by omega) h5 (fun k hk => by
        rw [mput_26, eg]
        by_cases q : k = j
        · subst q; rw [iup_s, iup_s]
        · rw [iup_n (by omega), iup_n q]; exact hv k (by omega)) (fun k => by
        by_cases q : k = j
        · subst q; rw [iup_s]; omega
        · rw [iup_n q]; exact hr k)
      refine ⟨c, m', fun z => ?_, fun z => ?_⟩
      · obtain ⟨a1, a2, a3, a4, a5⟩ := g1 z
        exact ⟨a1, a2, a3.tr (low_mput v), by omega, a5⟩
      · obtain ⟨a1, a2, a3⟩ := g2 z
        exact ⟨a1, by omega, a3⟩
    by_cases hz : s 10 (4 * p + j) = 1
    · refine now (20000000000 + 16 * ((p / 12 : Nat) : Int) + s 9 (4 * p + j)) (by omega) (by omega) ?_ ?_
      · unfold mone
        rw [eg, hm 10 (by omega), hm 9 (by omega), if_pos hz]
      · show (if s 10 (4 * p + j) = 1 then _ else _) = _
        rw [if_pos hz]
    · have eo : mone m p t = mbegin m (p / 12) (s 9 (4 * p + j)).toNat := by
        unfold mone
        rw [eg, hm 10 (by omega), hm 9 (by omega), if_neg hz]
      have er : rneeds (rget (d + 1) wk) p (n + 1) j s vs = if (rget (d + 1) wk s (p / 12) (s 9 (4 * p + j)).toNat).1 < 0 then ((rget (d + 1) wk s (p / 12) (s 9 (4 * p + j)).toNat).1, (rget (d + 1) wk s (p / 12) (s 9 (4 * p + j)).toNat).2, vs) else rneeds (rget (d + 1) wk) p n (j + 1) (rget (d + 1) wk s (p / 12) (s 9 (4 * p + j)).toNat).2 (iup vs j (rget (d + 1) wk s (p / 12) (s 9 (4 * p + j)).toNat).1) := by
        show (if s 10 (4 * p + j) = 1 then _ else _) = _
        rw [if_neg hz]
      have hok := rget_ok (d + 1) wk s (p / 12) (s 9 (4 * p + j)).toNat hs (by omega) (by omega)
      rcases beg (i := p / 12) (k := (s 9 (4 * p + j)).toNat) hs hm hP (show t + 1 + d = 36 by omega) (by omega) (by omega) with ⟨b1, b2, b3⟩ | ⟨q, hq, b1, b2, b3, b4, b5, b6⟩
      · generalize rget (d + 1) wk s (p / 12) (s 9 (4 * p + j)).toNat = r at er hok b1 b2 b3
        obtain ⟨o1, o2, o3, o4⟩ := hok
        by_cases hneg : r.1 < 0
        · rw [if_pos hneg] at er
          have e3 : mneeds p t (n + 1) m = (r.1, m) := by
            show (if (mone m p t).1 < 0 then _ else _) = _
            rw [eo, b1, if_pos hneg]
          have e4 : rend p (r.1, r.2, vs) = (r.1, r.2) := by
            unfold rend
            rw [if_pos hneg]
          rw [er, e3, e4, b2]
          refine ⟨1, m, fun z => absurd z (by show ¬ 0 ≤ r.1; omega), fun _ => ⟨hm, ?_, fun n' => ?_⟩⟩
          · show ((1 : Nat) : Int) + 300 * s 23 0 ≤ 1 + 71 * ((n + 1 : Nat) : Int) + 300 * d + 300 * s 23 0
            omega
          · rw [mcont_neg (w := (r.1, m)) hneg]
            exact mloop_err hneg b3
        · rw [if_neg hneg, b2] at er
          exact now r.1 (by omega) o4 (by rw [eo, b1]) er
      · have e3 : mneeds p t (n + 1) m = (-100, mpush m q) := by
          show (if (mone m p t).1 < 0 then _ else _) = _
          rw [eo, b1, if_pos (by show (-100 : Int) < 0; omega)]
        obtain ⟨c1, m1, g1, g2⟩ := ih (wadd wk q) s (mpush m q) q (t + 1) hs (sem_push hm) (hP.push hq b6) (by omega) hq (by
          show iup (m 24) (m 27 0).toNat (q : Int) (t + 1) = _
          rw [hP.1, Int.toNat_natCast, iup_s]) (by
          show iup (m 25) (m 27 0).toNat 0 (t + 1) = _
          rw [hP.1, Int.toNat_natCast, iup_s]) b3 b4 b5
        rw [← b2] at g1 g2
        generalize rget (d + 1) wk s (p / 12) (s 9 (4 * p + j)).toNat = r at er hok g1 g2
        obtain ⟨o1, o2, o3, o4⟩ := hok
        have hmono := o2.2.1
        have hpl : low (t + 1) (mpush m q) m := by
          intro j' hj'
          refine ⟨?_, ?_, fun _ _ => rfl⟩
          · show iup (m 24) (m 27 0).toNat (q : Int) j' = _
            rw [hP.1, Int.toNat_natCast, iup_n (by omega)]
          · show iup (m 25) (m 27 0).toNat 0 j' = _
            rw [hP.1, Int.toNat_natCast, iup_n (by omega)]
        by_cases hneg : r.1 < 0
        · obtain ⟨a1, a2, a3⟩ := g2 hneg
          rw [if_pos hneg] at er
          have e4 : rend p (r.1, r.2, vs) = (r.1, r.2) := by
            unfold rend
            rw [if_pos hneg]
          rw [er, e3, e4]
          refine ⟨c1, m1, fun z => absurd z (by show ¬ 0 ≤ r.1; omega), fun _ => ⟨a1, ?_, fun n' => ?_⟩⟩
          · show (c1 : Int) + 300 * s 23 0 ≤ 1 + 71 * ((n + 1 : Nat) : Int) + 300 * d + 300 * r.2 23 0
            omega
          · rw [mcont_neg (by show (-100 : Int) < 0; omega)]
            exact a3 n'
        · obtain ⟨a1, a2, a3, a4, a5⟩ := g1 (by omega)
          rw [if_neg hneg] at er
          have l1 := a3.tr hpl
          have l1t := l1 t (by omega)
          have stt := o2.1
          have ed : mdel m1 r.1 = mput m1 t r.1 := by
            unfold mdel
            rw [show (m1 27 0 - 1).toNat = t by omega]
          have eg1 : (m1 25 t).toNat = j := by rw [l1t.2.1]; exact eg
          obtain ⟨c2, m', k1, k2⟩ := ihn (j + 1) r.2 (mput m1 t r.1) (iup vs j r.1) o1 (sem_mput a1 t r.1) (hP.low (by rw [mput_27]; omega) (fun i hi => (l1 i hi).1)) (by rw [mput_24, l1t.1]; exact h24) (by rw [mput_25, iup_s, l1t.2.1, h25]; omega) (by rw [stt 8 rfl]; omega) (by rw [stt 5 rfl]; exact h5) (fun k hk => by
            rw [mput_26, eg1]
            by_cases qk : k = j
            · subst qk; rw [iup_s, iup_s]
            · rw [iup_n (by omega), iup_n qk, l1t.2.2 k (by omega)]; exact hv k (by omega)) (fun k => by
            by_cases qk : k = j
            · subst qk; rw [iup_s]; omega
            · rw [iup_n qk]; exact hr k)
          have step : ∀ n', mcont (mloop (c1 + (c2 + 1) + n')) (mneeds p t (n + 1) m) ((t : Int) + 1) = mcont (mloop (c2 + n')) (mneeds p t n (mput m1 t r.1)) ((t : Int) + 1) := by
            intro n'
            rw [e3, mcont_neg (by show (-100 : Int) < 0; omega)]
            show mloop (c1 + (c2 + 1) + n') (-100) (mpush m q) = _
            rw [show c1 + (c2 + 1) + n' = c1 + (c2 + n' + 1) by omega, a5]
            unfold mfin
            have t27 : mput m1 t r.1 27 0 = (t : Int) + 1 := by rw [mput_27]; omega
            rw [if_neg (by omega), ed, mloop_go (by omega) (by omega), t27]
            rw [mwork_at (p := p) t27 (by rw [mput_24, l1t.1]; exact h24)]
            unfold mworkp
            have e5 : mput m1 t r.1 5 = s 5 := by rw [stat_mput t r.1 5 (by omega), a1 5 (by omega), stt 5 rfl]
            have e8 : mput m1 t r.1 8 = s 8 := by rw [stat_mput t r.1 8 (by omega), a1 8 (by omega), stt 8 rfl]
            rw [e5, e8, if_neg (by omega), mput_25, iup_s, l1t.2.1, h25, h8]
            rw [show ((j : Int) + ((n + 1 : Nat) : Int) - ((j : Int) + 1)).toNat = n by omega]
          rw [er]
          refine ⟨c1 + (c2 + 1), m', fun z => ?_, fun z => ?_⟩
          · obtain ⟨x1, x2, x3, x4, x5⟩ := k1 z
            refine ⟨x1, x2, x3.tr ((low_mput r.1).tr (fun i hi => l1 i (by omega))), ?_, fun n' => ?_⟩
            · omega
            · rw [step n', x5]
          · obtain ⟨x1, x2, x3⟩ := k2 z
            refine ⟨x1, ?_, fun n' => ?_⟩
            · omega
            · rw [step n', x3]
theorem SIM : ∀ d, SIMp d
  | 0 => fun _ _ _ _ _ _ _ _ _ _ _ _ _ _ h => absurd h (by omega)
  | d + 1 => by
    have ih := SIM d
    intro wk s m p t hs hm hP htd hp h24 h25 h5 hno _
    have t27 : m 27 0 = (t : Int) + 1 := by rw [hP.1]; omega
    have hgo : ∀ n, mloop (n + 1) (-100) m = mcont (mloop n) (mworkp m t p) ((t : Int) + 1) := fun n => by
      rw [mloop_go (by omega) (by omega), t27, mwork_at t27 h24]
    have hmd := hs.md
    by_cases c : s 5 p = 2
    · have er : rgo (rget (d + 1) wk) s p = rget (d + 1) wk s (p / 12) (s 6 p).toNat := by
        unfold rgo
        rw [if_pos c]
      have hlk := hs.lk c
      have ew : mworkp m t p = mbegin m (p / 12) (s 6 p).toNat := by
        unfold mworkp
        rw [hm 5 (by omega), if_pos c, if_pos h25, hm 6 (by omega)]
      have hok := rget_ok (d + 1) wk s (p / 12) (s 6 p).toNat hs (by omega) (by omega)
      -- the link has its value
      have fini : ∀ (n : Nat) (v u : Int) (m1 : St), 0 ≤ v → ¬ (u < 0 ∧ u ≠ -100) → m1 27 0 = (t : Int) + 1 → m1 24 t = (p : Int) → m1 5 = s 5 → m1 25 t = 1 → m1 26 (4 * t) = v → mloop (n + 1) u m1 = mfin n t v (mpop m1) := by
        intro n v u m1 f0 fu f1 f2 f3 f4 f5
        rw [mloop_go (by omega) fu, f1, mwork_at f1 f2]
        have e9 : mworkp m1 t p = (v, m1) := by
          unfold mworkp
          rw [f3, if_pos c, if_neg (by omega), f5]
        rw [e9]
        exact mcont_pop (w := (v, m1)) f0 f1 (fun z => by have z2 : m1 25 t = 0 := z.2; omega)
      rw [er]
      rcases beg (i := p / 12) (k := (s 6 p).toNat) hs hm hP (show t + 1 + d = 36 by omega) (by omega) (by omega) with ⟨b1, b2, b3⟩ | ⟨q, hq, b1, b2, b3, b4, b5, b6⟩
      · generalize rget (d + 1) wk s (p / 12) (s 6 p).toNat = r at hok b1 b2 b3
        by_cases hneg : r.1 < 0
        · refine ⟨2, m, fun z => absurd z (by omega), fun _ => ⟨by rw [b2]; exact hm, ?_, fun n => ?_⟩⟩
          · rw [b2]; omega
          · rw [show 2 + n = (1 + n) + 1 by omega, hgo, ew, b1, mcont_neg (w := (r.1, m)) hneg]
            exact mloop_err hneg b3
        · refine ⟨2, mpop (mtk m r.1), fun _ => ⟨?_, ?_, ?_, ?_, fun n => ?_⟩, fun z => absurd z hneg⟩
          · intro f hf
            unfold mpop mtk
            rw [sup_n (by omega), sup_n (by omega), sup_n (by omega), b2]
            exact hm f hf
          · rw [mpop_27]
            show m 27 0 - 1 = _
            omega
          · intro j hj
            have et : (m 27 0 - 1).toNat = t := by omega
            refine ⟨rfl, ?_, fun k hk => ?_⟩
            · show iup (m 25) (m 27 0 - 1).toNat 1 j = _
              rw [et, iup_n (by omega)]
            · show iup (m 26) (4 * (m 27 0 - 1).toNat) r.1 (4 * j + k) = _
              rw [et, iup_n (by omega)]
          · rw [b2]; omega
          · rw [show 2 + n = (n + 1) + 1 by omega, hgo, ew, b1]
            have et : (m 27 0 - 1).toNat = t := by omega
            have e1 : mcont (mloop (n + 1)) (r.1, m) ((t : Int) + 1) = mloop (n + 1) r.1 (mtk m r.1) := by
              unfold mcont
              rw [if_neg hneg, if_pos ⟨t27, by show m 5 (m 24 (m 27 0 - 1).toNat).toNat = 2; rw [et, h24, Int.toNat_natCast, hm 5 (by omega)]; exact c, by show m 25 (m 27 0 - 1).toNat = 0; rw [et]; exact h25⟩]
            rw [e1]
            refine fini n r.1 r.1 (mtk m r.1) (by omega) (by omega) t27 h24 (hm 5 (by omega)) ?_ ?_
            · show iup (m 25) (m 27 0 - 1).toNat 1 t = 1
              rw [et, iup_s]
            · show iup (m 26) (4 * (m 27 0 - 1).toNat) r.1 (4 * t) = r.1
              rw [et, iup_s]
      · obtain ⟨c1, m1, g1, g2⟩ := ih (wadd wk q) s (mpush m q) q (t + 1) hs (sem_push hm) (hP.push hq b6) (by omega) hq (by
          show iup (m 24) (m 27 0).toNat (q : Int) (t + 1) = _
          rw [hP.1, Int.toNat_natCast, iup_s]) (by
          show iup (m 25) (m 27 0).toNat 0 (t + 1) = _
          rw [hP.1, Int.toNat_natCast, iup_s]) b3 b4 b5
        rw [← b2] at g1 g2
        generalize rget (d + 1) wk s (p / 12) (s 6 p).toNat = r at hok g1 g2
        obtain ⟨o1, o2, o3, o4⟩ := hok
        by_cases hneg : r.1 < 0
        · obtain ⟨a1, a2, a3⟩ := g2 hneg
          refine ⟨c1 + 1, m1, fun z => absurd z (by omega), fun _ => ⟨a1, by omega, fun n => ?_⟩⟩
          · rw [show c1 + 1 + n = (c1 + n) + 1 by omega, hgo, ew, b1, mcont_neg (by show (-100 : Int) < 0; omega)]
            exact a3 n
        · obtain ⟨a1, a2, a3, a4, a5⟩ := g1 (by omega)
          have l1t := a3 t (by omega)
          have p24 : mpush m q 24 t = m 24 t := by
            show iup (m 24) (m 27 0).toNat (q : Int) t = _
            rw [hP.1, Int.toNat_natCast, iup_n (by omega)]
          have p25 : mpush m q 25 t = m 25 t := by
            show iup (m 25) (m 27 0).toNat 0 t = _
            rw [hP.1, Int.toNat_natCast, iup_n (by omega)]
          have ed : mdel m1 r.1 = mput m1 t r.1 := by
            unfold mdel
            rw [show (m1 27 0 - 1).toNat = t by omega]
          have eg1 : m1 25 t = 0 := by rw [l1t.2.1, p25]; exact h25
          refine ⟨c1 + 2, mpop (mput m1 t r.1), fun _ => ⟨?_, ?_, ?_, by omega, fun n => ?_⟩, fun z => absurd z hneg⟩
          · intro f hf
            unfold mpop
            rw [sup_n (by omega)]
            exact sem_mput a1 t r.1 f hf
          · rw [mpop_27, mput_27]; omega
          · intro j hj
            have lm := low_mput (m := m1) (t := t) r.1 j hj
            have l2 := a3 j (by omega)
            refine ⟨lm.1.trans (l2.1.trans ?_), lm.2.1.trans (l2.2.1.trans ?_), fun k hk => (lm.2.2 k hk).trans (l2.2.2 k hk)⟩
            · show iup (m 24) (m 27 0).toNat (q : Int) j = _
              rw [hP.1, Int.toNat_natCast, iup_n (by omega)]
            · show iup (m 25) (m 27 0).toNat 0 j = _
              rw [hP.1, Int.toNat_natCast, iup_n (by omega)]
          · rw [show c1 + 2 + n = (c1 + (n + 1)) + 1 by omega, hgo, ew, b1, mcont_neg (by show (-100 : Int) < 0; omega)]
            show mloop (c1 + (n + 1)) (-100) (mpush m q) = _
            rw [a5]
            unfold mfin
            rw [if_neg (show ¬ t + 1 = 0 by omega), ed]
            refine fini n r.1 r.1 (mput m1 t r.1) (by omega) (by omega) (by rw [mput_27]; omega) (by rw [mput_24, l1t.1, p24]; exact h24) ?_ ?_ ?_
            · rw [stat_mput t r.1 5 (by omega), a1 5 (by omega), o2.1 5 rfl]
            · rw [mput_25, iup_s, eg1]; omega
            · rw [mput_26, eg1]
              show iup (m1 26) (4 * t + 0) r.1 (4 * t) = r.1
              rw [Nat.add_zero, iup_s]
    · have h3 : s 5 p = 3 := by omega
      have hno2 : ¬ (s 7 p = 2 ∧ s 15 0 = 0) := fun z => hno ⟨h3, z⟩
      have hnn := hs.nn p
      have er : rgo (rget (d + 1) wk) s p = rend p (rneeds (rget (d + 1) wk) p (s 8 p).toNat 0 s (fun _ => 0)) := by
        unfold rgo
        rw [if_neg c, if_neg hno2]
      have ew : mworkp m t p = mneeds p t (s 8 p).toNat m := by
        unfold mworkp
        rw [hm 5 (by omega), if_neg c, hm 8 (by omega), h25, Int.sub_zero]
      obtain ⟨c1, m1, g1, g2⟩ := NEED (wk := wk) htd ih hp (s 8 p).toNat 0 s m (fun _ => 0) hs hm hP h24 h25 (by omega) h3 (fun k hk => absurd hk (by omega)) (fun _ => by omega)
      rw [er]
      have hok := rneeds_ok (rget_ok (d + 1) wk) hp (s 8 p).toNat 0 s (fun _ => 0) hs (fun _ => by omega)
      refine ⟨c1 + 1, m1, fun z => ?_, fun z => ?_⟩
      · obtain ⟨a1, a2, a3, a4, a5⟩ := g1 z
        refine ⟨a1, a2, a3, by omega, fun n => ?_⟩
        rw [show c1 + 1 + n = (c1 + n) + 1 by omega, hgo, ew, a5]
      · obtain ⟨a1, a2, a3⟩ := g2 z
        refine ⟨a1, by omega, fun n => ?_⟩
        rw [show c1 + 1 + n = (c1 + n) + 1 by omega, hgo, ew, a3]
/-- gets: value and state are those of the getting, but for the machine's own fields -/
theorem mgets_ok {s : St} (hs : Inv s) {i k : Nat} (hi : i < 3) (hk : k < 12) : (mgets s i k).1 = (rget 37 (fun _ => false) s i k).1 ∧ sem (mgets s i k).2 (rget 37 (fun _ => false) s i k).2 := by
  unfold mgets
  have hP : PF (sup s 27 0 0) 0 (fun _ => false) := by
    refine ⟨show iup (s 27) 0 0 0 = _ from iup_s _ _ _, fun j hj => absurd hj (by omega), fun a b ha => absurd ha (by omega), fun q => ⟨fun h => by simp at h, fun ⟨j, hj, _⟩ => absurd hj (by omega)⟩⟩
  have hm : sem (sup s 27 0 0) s := fun f hf => sup_n (by omega)
  have h0 : sup s 27 0 0 27 0 = 0 := show iup (s 27) 0 0 0 = _ from iup_s _ _ _
  have hok := rget_ok 37 (fun _ => false) s i k hs hi hk
  rcases beg (i := i) (k := k) hs hm hP (show 0 + 36 = 36 by omega) hi hk with ⟨b1, b2, b3⟩ | ⟨q, hq, b1, b2, b3, b4, b5, b6⟩
  · rw [b1]
    have e1 : ∀ v : Int, mloop 100000 v (sup s 27 0 0) = (v, sup s 27 0 0) := fun v => by
      show (if sup s 27 0 0 27 0 ≤ 0 then _ else _) = _
      rw [if_pos (by omega)]
    show (mloop 100000 (rget 37 (fun _ => false) s i k).1 (sup s 27 0 0)).1 = _ ∧ sem (mloop 100000 (rget 37 (fun _ => false) s i k).1 (sup s 27 0 0)).2 _
    rw [e1]
    refine ⟨rfl, ?_⟩
    show sem (sup s 27 0 0) (rget (36 + 1) (fun _ => false) s i k).2
    rw [b2]
    exact hm
  · rw [b1]
    show (mloop 100000 (-100) (mpush (sup s 27 0 0) q)).1 = _ ∧ sem (mloop 100000 (-100) (mpush (sup s 27 0 0) q)).2 _
    have b2 : rget 37 (fun _ => false) s i k = rgo (rget 36 (wadd (fun _ => false) q)) s q := b2
    obtain ⟨c, m', g1, g2⟩ := SIM 36 (wadd (fun _ => false) q) s (mpush (sup s 27 0 0) q) q 0 hs (sem_push hm) (hP.push hq b6) (by omega) hq (by
      show iup (s 24) (sup s 27 0 0 27 0).toNat (q : Int) 0 = _
      rw [h0]; exact iup_s _ _ _) (by
      show iup (s 25) (sup s 27 0 0 27 0).toNat 0 0 = _
      rw [h0]; exact iup_s _ _ _) b3 b4 b5
    rw [← b2] at g1 g2
    have hmd := hok.1.md
    have hmd2 := hs.md
    by_cases hneg : (rget 37 (fun _ => false) s i k).1 < 0
    · obtain ⟨a1, a2, a3⟩ := g2 hneg
      rw [show 100000 = c + (100000 - c) by omega, a3]
      exact ⟨rfl, a1⟩
    · obtain ⟨a1, a2, a3, a4, a5⟩ := g1 (by omega)
      rw [show 100000 = c + (100000 - c) by omega, a5]
      exact ⟨rfl, a1⟩
