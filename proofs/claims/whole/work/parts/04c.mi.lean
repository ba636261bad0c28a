/-! the machine's own invariant -/
theorem srow2_sup (u : St) {f g : Nat} (a b : Nat → Int) (h : f ≠ g) (x y : Nat) (v w : Int) : sup (sup (srow (srow u f a) g b) f x v) g y w = srow (srow u f (iup a x v)) g (iup b y w) := by
  funext z
  rw [sup_srow, sup_srow]
  by_cases z1 : z = g
  · subst z1
    rw [srow_s, srow_s, srow_n (Ne.symm h), srow_s]
  · rw [srow_n z1, srow_n z1]
    by_cases z2 : z = f
    · subst z2
      rw [srow_s, srow_s, srow_n h, srow_s]
    · rw [srow_n z2, srow_n z2, srow_n z1, srow_n z2]
theorem Inv_sem {a b : St} (h : sem a b) (hb : Inv b) : Inv a := by
  have e : ∀ f, f < 24 → a f = b f := fun f hf => h f (Or.inl hf)
  unfold Inv pOK
  rw [e 0 (by omega), e 1 (by omega), e 2 (by omega), e 3 (by omega), e 4 (by omega), e 5 (by omega), e 6 (by omega), e 7 (by omega), e 8 (by omega), e 9 (by omega), e 10 (by omega), e 11 (by omega), e 12 (by omega), e 15 (by omega), e 16 (by omega), e 17 (by omega), e 18 (by omega), e 19 (by omega), e 20 (by omega), e 21 (by omega), e 22 (by omega), e 23 (by omega)]
  exact hb
def fok (s : St) (p : Int) : Prop := 0 ≤ p ∧ p < 36 ∧ (s 5 p.toNat = 2 ∨ (s 5 p.toNat = 3 ∧ ¬ (s 7 p.toNat = 2 ∧ s 15 0 = 0)))
def MI (s : St) : Prop := (0 ≤ s 27 0 ∧ s 27 0 ≤ 36) ∧ (∀ j : Nat, (j : Int) < s 27 0 → fok s (s 24 j)) ∧ (∀ i j : Nat, (i : Int) < s 27 0 → (j : Int) < s 27 0 → s 24 i = s 24 j → i = j) ∧ (∀ j : Nat, (j : Int) < s 27 0 → 0 ≤ s 25 j ∧ s 25 j ≤ 4) ∧ (∀ j : Nat, (j : Int) + 1 < s 27 0 → s 25 j ≤ 3) ∧ ∀ j, 0 ≤ s 26 j ∧ s 26 j ≤ 1000000000000
theorem MI.top {s : St} (h : MI s) : 0 ≤ s 27 0 ∧ s 27 0 ≤ 36 := h.1
theorem MI.fr {s : St} (h : MI s) {j : Nat} (hj : (j : Int) < s 27 0) : fok s (s 24 j) := h.2.1 j hj
theorem MI.dis {s : St} (h : MI s) {i j : Nat} (hi : (i : Int) < s 27 0) (hj : (j : Int) < s 27 0) (e : s 24 i = s 24 j) : i = j := h.2.2.1 i j hi hj e
theorem MI.got {s : St} (h : MI s) {j : Nat} (hj : (j : Int) < s 27 0) : 0 ≤ s 25 j ∧ s 25 j ≤ 4 := h.2.2.2.1 j hj
theorem MI.got3 {s : St} (h : MI s) {j : Nat} (hj : (j : Int) + 1 < s 27 0) : s 25 j ≤ 3 := h.2.2.2.2.1 j hj
theorem MI.val {s : St} (h : MI s) (j : Nat) : 0 ≤ s 26 j ∧ s 26 j ≤ 1000000000000 := h.2.2.2.2.2 j
theorem fok_mv {a b : St} (h5 : a 5 = b 5) (h7 : a 7 = b 7) (h15 : a 15 = b 15) {p : Int} (h : fok b p) : fok a p := by
  unfold fok
  rw [h5, h7, h15]
  exact h
/-- with the pair not in the pile there is room -/
theorem MI.room {s : St} (h : MI s) {p : Nat} (hp : p < 36) (hw : ¬ wkg s p = true) : s 27 0 < 36 := by
  apply Classical.byContradiction
  intro c
  have ht : s 27 0 = 36 := by have := h.top; omega
  apply hw
  obtain ⟨j, hj, e⟩ := pig_all (n := 36) (f := fun j => (s 24 j).toNat) (fun j hj => by
    obtain ⟨h1, h2, -⟩ := h.fr (j := j) (by omega)
    show (s 24 j).toNat < 36
    omega) (fun a b ha hb eab => h.dis (by omega) (by omega) (by
    obtain ⟨h1, h2, -⟩ := h.fr (j := a) (by omega)
    obtain ⟨h3, h4, -⟩ := h.fr (j := b) (by omega)
    have eab : (s 24 a).toNat = (s 24 b).toNat := eab
    omega)) hp
  obtain ⟨h1, h2, -⟩ := h.fr (j := j) (by omega)
  have e : (s 24 j).toNat = p := e
  unfold wkg
  rw [List.any_eq_true]
  exact ⟨j, List.mem_range.mpr (by omega), decide_eq_true (by omega)⟩
theorem wkg_no {s : St} {p : Nat} (hw : ¬ wkg s p = true) {j : Nat} (hj : (j : Int) < s 27 0) : s 24 j ≠ (p : Int) := by
  intro e
  apply hw
  unfold wkg
  rw [List.any_eq_true]
  exact ⟨j, List.mem_range.mpr (by omega), decide_eq_true e⟩
theorem mpush_24 {s : St} {p t : Nat} (ht : s 27 0 = (t : Int)) : mpush s p 24 = iup (s 24) t p := by
  show iup (s 24) (s 27 0).toNat p = _
  rw [ht, Int.toNat_natCast]
theorem mpush_25 {s : St} {p t : Nat} (ht : s 27 0 = (t : Int)) : mpush s p 25 = iup (s 25) t 0 := by
  show iup (s 25) (s 27 0).toNat 0 = _
  rw [ht, Int.toNat_natCast]
theorem mpush_27 (s : St) (p : Nat) : mpush s p 27 0 = s 27 0 + 1 := by
  show iup (s 27) 0 (s 27 0 + 1) 0 = _
  rw [iup_s]
theorem MI.push {s : St} (h : MI s) (h3 : ∀ j : Nat, (j : Int) < s 27 0 → s 25 j ≤ 3) {p : Nat} (hp : p < 36) (hw : ¬ wkg s p = true) (hf : fok s p) : MI (mpush s p) := by
  obtain ⟨t, ht⟩ := Int.eq_ofNat_of_zero_le h.top.1
  have hr := h.room hp hw
  have e24 := mpush_24 (p := p) ht
  have e25 := mpush_25 (p := p) ht
  have e27 := mpush_27 s p
  have hf' : ∀ q, fok s q → fok (mpush s p) q := fun q => fok_mv rfl rfl rfl
  refine ⟨by omega, fun j hj => ?_, fun i j hi hj e => ?_, fun j hj => ?_, fun j hj => ?_, h.val⟩
  · rw [e24]
    by_cases c : j = t
    · subst c; rw [iup_s]; exact hf' _ hf
    · rw [iup_n c]; exact hf' _ (h.fr (by omega))
  · rw [e24] at e
    by_cases ci : i = t
    · by_cases cj : j = t
      · omega
      · subst ci
        rw [iup_s, iup_n cj] at e
        exact absurd e.symm (wkg_no hw (by omega))
    · by_cases cj : j = t
      · subst cj
        rw [iup_s, iup_n ci] at e
        exact absurd e (wkg_no hw (by omega))
      · rw [iup_n ci, iup_n cj] at e
        exact h.dis (by omega) (by omega) e
  · rw [e25]
    by_cases c : j = t
    · subst c; rw [iup_s]; omega
    · rw [iup_n c]; exact h.got (by omega)
  · rw [e25]
    by_cases c : j = t
    · omega
    · rw [iup_n c]; exact h3 j (by omega)
theorem mbegin_ok {s : St} (hI : Inv s) (h : MI s) (h3 : ∀ j : Nat, (j : Int) < s 27 0 → s 25 j ≤ 3) {i k : Nat} (hi : i < 3) (hk : k < 12) :
    Inv (mbegin s i k).2 ∧ MI (mbegin s i k).2 ∧ -100 ≤ (mbegin s i k).1 ∧ (mbegin s i k).1 ≤ 1000000000000 ∧ ((mbegin s i k).1 ≠ -100 → (mbegin s i k).2 = s) := by
  unfold mbegin
  by_cases c : sn s i k < 0
  · rw [if_pos c]; exact ⟨hI, h, by show (-100 : Int) ≤ -2; omega, by show (-2 : Int) ≤ _; omega, fun _ => rfl⟩
  · rw [if_neg c]
    obtain ⟨p, hp, e, h0, -⟩ := hI.seen hi hk c
    rw [e, Int.toNat_natCast]
    have hkd := hI.kd p
    have hsi := hI.si p
    have hre := hI.re p
    have hnu := hI.nu p
    have hmd := hI.md
    unfold r32 at hnu
    unfold mbeginp
    by_cases c1 : s 5 p = 1
    · rw [if_pos c1]; exact ⟨hI, h, by show -100 ≤ 10000000000 + s 6 p; omega, by show 10000000000 + s 6 p ≤ _; omega, fun _ => rfl⟩
    · rw [if_neg c1]
      by_cases c2 : s 5 p = 3 ∧ s 7 p = 1 ∧ s 11 p ≠ 0
      · rw [if_pos c2]; exact ⟨hI, h, by show -100 ≤ s 11 p - 1; omega, by show s 11 p - 1 ≤ _; omega, fun _ => rfl⟩
      · rw [if_neg c2]
        by_cases c3 : s 5 p = 3 ∧ s 7 p = 2 ∧ s 15 0 ≠ 0 ∧ s 12 p ≠ 0
        · rw [if_pos c3]; exact ⟨hI, h, by show -100 ≤ s 12 p - 1; omega, by show s 12 p - 1 ≤ _; omega, fun _ => rfl⟩
        · rw [if_neg c3]
          by_cases c4 : wkg s p = true
          · rw [if_pos c4]; exact ⟨hI, h, by show (-100 : Int) ≤ -3; omega, by show (-3 : Int) ≤ _; omega, fun _ => rfl⟩
          · rw [if_neg c4]
            by_cases c5 : s 5 p = 3 ∧ s 7 p = 2 ∧ s 15 0 = 0
            · rw [if_pos c5]; exact ⟨hI, h, by show (-100 : Int) ≤ -4; omega, by show (-4 : Int) ≤ _; omega, fun _ => rfl⟩
            · rw [if_neg c5]
              refine ⟨Inv_sem (sem_push (fun _ _ => rfl)) hI, h.push h3 hp c4 ⟨by omega, by omega, ?_⟩, by show (-100 : Int) ≤ -100; omega, by show (-100 : Int) ≤ _; omega, fun z => absurd rfl z⟩
              rw [Int.toNat_natCast]
              by_cases c6 : s 5 p = 2
              · exact Or.inl c6
              · exact Or.inr ⟨by omega, fun z => c5 ⟨by omega, z⟩⟩
theorem MI.put {s : St} (h : MI s) {me : Nat} (hme : (me : Int) + 1 = s 27 0) (hg : s 25 me ≤ 3) {v : Int} (hv : 0 ≤ v ∧ v ≤ 1000000000000) : MI (mput s me v) := by
  have e27 : mput s me v 27 = s 27 := rfl
  have e24 : mput s me v 24 = s 24 := rfl
  have hf' : ∀ q, fok s q → fok (mput s me v) q := fun q => fok_mv rfl rfl rfl
  refine ⟨by rw [e27]; exact h.top, fun j hj => hf' _ (h.fr hj), fun i j hi hj e => h.dis hi hj e, fun j hj => ?_, fun j hj => ?_, fun j => ?_⟩
  · rw [mput_25]
    have h1 := h.got (j := me) (by omega)
    by_cases c : j = me
    · subst c; rw [iup_s]; omega
    · rw [iup_n c]; exact h.got hj
  · rw [mput_25]
    rw [e27] at hj
    rw [iup_n (by omega)]
    exact h.got3 hj
  · rw [mput_26]
    by_cases c : j = 4 * me + (s 25 me).toNat
    · rw [c, iup_s]; exact hv
    · rw [iup_n c]; exact h.val j
theorem MI_sem {a b : St} (h : MI b) (h5 : a 5 = b 5) (h7 : a 7 = b 7) (h15 : a 15 = b 15) (h24 : a 24 = b 24) (h25 : a 25 = b 25) (h26 : a 26 = b 26) (h27 : a 27 = b 27) : MI a := by
  have hf' : ∀ q, fok b q → fok a q := fun q => fok_mv h5 h7 h15
  unfold MI
  rw [h24, h25, h26, h27]
  exact ⟨h.1, fun j hj => hf' _ (h.2.1 j hj), h.2.2⟩
def mok (r : Int × St) : Prop := Inv r.2 ∧ MI r.2 ∧ -100 ≤ r.1 ∧ r.1 ≤ 1000000000000
theorem mmake_ok {s : St} (hI : Inv s) (h : MI s) {p w : Nat} (hp : p < 36) (h3 : s 5 p = 3) (hno : ¬ (s 7 p = 2 ∧ s 15 0 = 0)) : mok (mmake s p w) := by
  have hmd := hI.md
  unfold mmake
  by_cases c : s 23 0 = 100
  · rw [if_pos c]; exact ⟨hI, h, by show (-100 : Int) ≤ -5; omega, by show (-5 : Int) ≤ _; omega⟩
  · rw [if_neg c]
    have e : ∀ f, dyn f = false → mk s p (fun k => s 26 (4 * w + k)) f = s f := fun f hf => mk_o hf
    exact ⟨hI.mkI hp h3 hno c (fun k _ => h.val _), MI_sem h (e 5 rfl) (e 7 rfl) (e 15 rfl) (e 24 rfl) (e 25 rfl) (e 26 rfl) (e 27 rfl), by show -100 ≤ s 23 0; omega, by show s 23 0 ≤ _; omega⟩
/-- one need -/
theorem mone_ok {s : St} (hI : Inv s) (h : MI s) {p me : Nat} (hp : p < 36) (hme : (me : Int) + 1 = s 27 0) (hg : s 25 me ≤ 3) : mok (mone s p me) ∧ ((mone s p me).1 ≠ -100 → (mone s p me).2 = s) := by
  have hnk := hI.nk (4 * p + (s 25 me).toNat)
  unfold mone
  by_cases c : s 10 (4 * p + (s 25 me).toNat) = 1
  · rw [if_pos c]
    exact ⟨⟨hI, h, by show -100 ≤ 20000000000 + 16 * ((p / 12 : Nat) : Int) + s 9 (4 * p + (s 25 me).toNat); omega, by show 20000000000 + 16 * ((p / 12 : Nat) : Int) + s 9 (4 * p + (s 25 me).toNat) ≤ _; omega⟩, fun _ => rfl⟩
  · rw [if_neg c]
    obtain ⟨a1, a2, a3, a4, a5⟩ := mbegin_ok hI h (fun j hj => by
      by_cases e : j = me
      · rw [e]; exact hg
      · exact h.got3 (by omega)) (i := p / 12) (k := (s 9 (4 * p + (s 25 me).toNat)).toNat) (by omega) (by omega)
    exact ⟨⟨a1, a2, a3, a4⟩, a5⟩
