/-! what holds of every state stays so -/
theorem Inv.child {s : St} (h : Inv s) {p : Int} (h0 : ¬ (p < 0 ∨ s 1 0 ≤ p ∨ s 1 0 = 3)) : Inv (sup (sup s 0 (s 1 0).toNat p) 1 0 (s 1 0 + 1)) := by
  have hinj := h.inj
  refine ⟨?_, ?_, h.bn, h.bk, h.bz, h.kd, ?_, h.nu, fun _ => h.lk, h.sc, h.nn, h.nk, h.nz, h.si, fun _ => h.si2, h.re, fun _ => h.re2, h.op, h.md, h.ik, h.ij, ?_, h.is, h.inn, h.ink, h.iz, h.ivv⟩
  · show 1 ≤ s 1 0 + 1 ∧ s 1 0 + 1 ≤ 3
    omega
  · obtain ⟨p0, p1, p2⟩ := h.par
    show iup (s 0) (s 1 0).toNat p 0 = -1 ∧ (0 ≤ iup (s 0) (s 1 0).toNat p 1 ∧ iup (s 0) (s 1 0).toNat p 1 < 1) ∧ (0 ≤ iup (s 0) (s 1 0).toNat p 2 ∧ iup (s 0) (s 1 0).toNat p 2 < 2)
    have e : (s 1 0).toNat = 1 ∨ (s 1 0).toNat = 2 := by omega
    rcases e with e | e
    · rw [e, iup_n (by decide), iup_s, iup_n (by decide)]; omega
    · rw [e, iup_n (by decide), iup_n (by decide), iup_s]; omega
  · intro q hq
    have := h.kj (p := q) hq
    show ((q / 12 : Nat) : Int) < s 1 0 + 1
    omega
  · intro i hi
    have := h.ij2 (i := i) hi
    show s 17 i < s 1 0 + 1
    omega
theorem Inv.need {s : St} (h : Inv s) {k z : Int} (h0 : ¬ (k < 0 ∨ 11 < k ∨ s 4 0 = 4)) (hz : z = 0 ∨ z = 1) : Inv (sup (sup (sup s 2 (s 4 0).toNat k) 3 (s 4 0).toNat z) 4 0 (s 4 0 + 1)) := by
  have hbn := h.bn
  refine ⟨h.inj, h.par, ?_, ?_, ?_, h.kd, fun _ => h.kj, h.nu, fun _ => h.lk, h.sc, h.nn, h.nk, h.nz, h.si, fun _ => h.si2, h.re, fun _ => h.re2, h.op, h.md, h.ik, h.ij, fun _ => h.ij2, h.is, h.inn, h.ink, h.iz, h.ivv⟩
  · show 0 ≤ s 4 0 + 1 ∧ s 4 0 + 1 ≤ 4
    omega
  · intro q
    show 0 ≤ iup (s 2) (s 4 0).toNat k q ∧ iup (s 2) (s 4 0).toNat k q ≤ 11
    by_cases c : q = (s 4 0).toNat
    · rw [c, iup_s]; omega
    · rw [iup_n c]; exact h.bk q
  · intro q
    show iup (s 3) (s 4 0).toNat z q = 0 ∨ iup (s 3) (s 4 0).toNat z q = 1
    by_cases c : q = (s 4 0).toNat
    · rw [c, iup_s]; exact hz
    · rw [iup_n c]; exact h.bz q
theorem Inv.drop {s : St} (h : Inv s)  : Inv (sup s 4 0 0) := by
  refine ⟨h.inj, h.par, ?_, h.bk, h.bz, h.kd, fun _ => h.kj, h.nu, fun _ => h.lk, h.sc, h.nn, h.nk, h.nz, h.si, fun _ => h.si2, h.re, fun _ => h.re2, h.op, h.md, h.ik, h.ij, fun _ => h.ij2, h.is, h.inn, h.ink, h.iz, h.ivv⟩
  · show (0 : Int) ≤ 0 ∧ (0 : Int) ≤ 4
    omega
theorem Inv.bind {s : St} (h : Inv s) {p : Nat} {w v : Int} (hp : ((p / 12 : Nat) : Int) < s 1 0) (h5 : s 5 p = 0) (hw : w = 1 ∨ (w = 2 ∧ 0 ≤ v ∧ v ≤ 11)) (hv : r32 v) : Inv (sup (sup s 5 p w) 6 p v) := by
  refine ⟨h.inj, h.par, h.bn, h.bk, h.bz, ?_, ?_, ?_, ?_, h.sc, h.nn, h.nk, h.nz, h.si, ?_, h.re, ?_, h.op, h.md, h.ik, h.ij, fun _ => h.ij2, h.is, h.inn, h.ink, h.iz, h.ivv⟩
  · intro q
    show 0 ≤ iup (s 5) p w q ∧ iup (s 5) p w q ≤ 3
    by_cases c : q = p
    · rw [c, iup_s]; omega
    · rw [iup_n c]; exact h.kd q
  · intro q
    show iup (s 5) p w q ≠ 0 → ((q / 12 : Nat) : Int) < s 1 0
    by_cases c : q = p
    · rw [c]; exact fun _ => hp
    · rw [iup_n c]; exact h.kj
  · intro q
    show r32 (iup (s 6) p v q)
    by_cases c : q = p
    · rw [c, iup_s]; exact hv
    · rw [iup_n c]; exact h.nu q
  · intro q
    show iup (s 5) p w q = 2 → 0 ≤ iup (s 6) p v q ∧ iup (s 6) p v q ≤ 11
    by_cases c : q = p
    · rw [c, iup_s, iup_s]; omega
    · rw [iup_n c, iup_n c]; exact h.lk
  · intro q hq
    have h1 := h.si2 (p := q) hq
    show iup (s 5) p w q = 3 ∧ s 7 q = 1
    by_cases c : q = p
    · rw [c] at h1; omega
    · rw [iup_n c]; exact h1
  · intro q hq
    have h1 := h.re2 (p := q) hq
    show iup (s 5) p w q = 3 ∧ s 7 q = 2 ∧ s 15 0 = 1
    by_cases c : q = p
    · rw [c] at h1; omega
    · rw [iup_n c]; exact h1
theorem Inv.bcl {s : St} (h : Inv s) {p : Nat} {c9 : Int} (hp : ((p / 12 : Nat) : Int) < s 1 0) (h5 : s 5 p = 0) (hc : 0 ≤ c9 ∧ c9 ≤ 2) : Inv (bcl s p c9) := by
  refine ⟨h.inj, h.par, ?_, h.bk, h.bz, ?_, ?_, ?_, ?_, ?_, ?_, ?_, ?_, h.si, ?_, h.re, ?_, h.op, h.md, h.ik, h.ij, fun _ => h.ij2, h.is, h.inn, h.ink, h.iz, h.ivv⟩
  · show (0 : Int) ≤ 0 ∧ (0 : Int) ≤ 4
    omega
  · intro q
    show 0 ≤ iup (s 5) p 3 q ∧ iup (s 5) p 3 q ≤ 3
    by_cases c : q = p
    · rw [c, iup_s]; omega
    · rw [iup_n c]; exact h.kd q
  · intro q
    show iup (s 5) p 3 q ≠ 0 → ((q / 12 : Nat) : Int) < s 1 0
    by_cases c : q = p
    · rw [c]; exact fun _ => hp
    · rw [iup_n c]; exact h.kj
  · intro q
    show r32 (iup (s 6) p 0 q)
    by_cases c : q = p
    · rw [c, iup_s]; unfold r32; omega
    · rw [iup_n c]; exact h.nu q
  · intro q
    show iup (s 5) p 3 q = 2 → 0 ≤ iup (s 6) p 0 q ∧ iup (s 6) p 0 q ≤ 11
    by_cases c : q = p
    · rw [c, iup_s, iup_s]; omega
    · rw [iup_n c, iup_n c]; exact h.lk
  · intro q
    show 0 ≤ iup (s 7) p c9 q ∧ iup (s 7) p c9 q ≤ 2
    by_cases c : q = p
    · rw [c, iup_s]; omega
    · rw [iup_n c]; exact h.sc q
  · intro q
    show 0 ≤ iup (s 8) p (s 4 0) q ∧ iup (s 8) p (s 4 0) q ≤ 4
    by_cases c : q = p
    · rw [c, iup_s]; exact h.bn
    · rw [iup_n c]; exact h.nn q
  · intro q
    show 0 ≤ cpn (s 9) (4 * p) (s 4 0).toNat (s 2) q ∧ cpn (s 9) (4 * p) (s 4 0).toNat (s 2) q ≤ 11
    by_cases c : 4 * p ≤ q ∧ q < 4 * p + (s 4 0).toNat
    · rw [cpn_in c.1 c.2]; exact h.bk _
    · rw [cpn_out (by omega)]; exact h.nk q
  · intro q
    show cpn (s 10) (4 * p) (s 4 0).toNat (s 3) q = 0 ∨ cpn (s 10) (4 * p) (s 4 0).toNat (s 3) q = 1
    by_cases c : 4 * p ≤ q ∧ q < 4 * p + (s 4 0).toNat
    · rw [cpn_in c.1 c.2]; exact h.bz _
    · rw [cpn_out (by omega)]; exact h.nz q
  · intro q hq
    have h1 := h.si2 (p := q) hq
    show iup (s 5) p 3 q = 3 ∧ iup (s 7) p c9 q = 1
    by_cases c : q = p
    · rw [c] at h1; omega
    · rw [iup_n c, iup_n c]; exact h1
  · intro q hq
    have h1 := h.re2 (p := q) hq
    show iup (s 5) p 3 q = 3 ∧ iup (s 7) p c9 q = 2 ∧ s 15 0 = 1
    by_cases c : q = p
    · rw [c] at h1; omega
    · rw [iup_n c, iup_n c]; exact h1
theorem Inv.unbind {s : St} (h : Inv s) {p : Nat} : Inv (sup (sup (sup s 5 p 0) 11 p 0) 12 p 0) := by
  refine ⟨h.inj, h.par, h.bn, h.bk, h.bz, ?_, ?_, h.nu, ?_, h.sc, h.nn, h.nk, h.nz, ?_, ?_, ?_, ?_, h.op, h.md, h.ik, h.ij, fun _ => h.ij2, h.is, h.inn, h.ink, h.iz, h.ivv⟩
  · intro q
    show 0 ≤ iup (s 5) p 0 q ∧ iup (s 5) p 0 q ≤ 3
    by_cases c : q = p
    · rw [c, iup_s]; omega
    · rw [iup_n c]; exact h.kd q
  · intro q
    show iup (s 5) p 0 q ≠ 0 → ((q / 12 : Nat) : Int) < s 1 0
    by_cases c : q = p
    · rw [c, iup_s]; exact fun z => absurd rfl z
    · rw [iup_n c]; exact h.kj
  · intro q
    show iup (s 5) p 0 q = 2 → 0 ≤ s 6 q ∧ s 6 q ≤ 11
    by_cases c : q = p
    · rw [c, iup_s]; omega
    · rw [iup_n c]; exact h.lk
  · intro q
    show 0 ≤ iup (s 11) p 0 q ∧ iup (s 11) p 0 q ≤ s 23 0
    have hmd := h.md
    by_cases c : q = p
    · rw [c, iup_s]; omega
    · rw [iup_n c]; exact h.si q
  · intro q
    show iup (s 11) p 0 q ≠ 0 → iup (s 5) p 0 q = 3 ∧ s 7 q = 1
    by_cases c : q = p
    · rw [c, iup_s]; exact fun z => absurd rfl z
    · rw [iup_n c, iup_n c]; exact h.si2
  · intro q
    show 0 ≤ iup (s 12) p 0 q ∧ iup (s 12) p 0 q ≤ s 23 0
    have hmd := h.md
    by_cases c : q = p
    · rw [c, iup_s]; omega
    · rw [iup_n c]; exact h.re q
  · intro q
    show iup (s 12) p 0 q ≠ 0 → iup (s 5) p 0 q = 3 ∧ s 7 q = 2 ∧ s 15 0 = 1
    by_cases c : q = p
    · rw [c, iup_s]; exact fun z => absurd rfl z
    · rw [iup_n c, iup_n c]; exact h.re2
theorem Inv.opn {s : St} (h : Inv s)  : Inv (sup s 15 0 1) := by
  refine ⟨h.inj, h.par, h.bn, h.bk, h.bz, h.kd, fun _ => h.kj, h.nu, fun _ => h.lk, h.sc, h.nn, h.nk, h.nz, h.si, fun _ => h.si2, h.re, ?_, ?_, h.md, h.ik, h.ij, fun _ => h.ij2, h.is, h.inn, h.ink, h.iz, h.ivv⟩
  · intro q hq
    have h1 := h.re2 (p := q) hq
    exact ⟨h1.1, h1.2.1, rfl⟩
  · exact Or.inr rfl
theorem Inv.cls {s : St} (h : Inv s)  : Inv (srow (sup s 15 0 0) 12 (zer (s 12) 36)) := by
  refine ⟨h.inj, h.par, h.bn, h.bk, h.bz, h.kd, fun _ => h.kj, h.nu, fun _ => h.lk, h.sc, h.nn, h.nk, h.nz, h.si, fun _ => h.si2, ?_, ?_, ?_, h.md, h.ik, h.ij, fun _ => h.ij2, h.is, h.inn, h.ink, h.iz, h.ivv⟩
  · intro q
    show 0 ≤ zer (s 12) 36 q ∧ zer (s 12) 36 q ≤ s 23 0
    have hmd := h.md
    unfold zer
    split
    · omega
    · exact h.re q
  · intro q
    show zer (s 12) 36 q ≠ 0 → s 5 q = 3 ∧ s 7 q = 2 ∧ (0 : Int) = 1
    unfold zer
    split
    · exact fun z => absurd rfl z
    · intro z
      have h1 := h.re2 z
      have h2 := h.kj (p := q) (by omega)
      have h3 := h.inj
      omega
  · exact Or.inl rfl
theorem Inv.s0 : Inv s00 := by
  refine ⟨by show (1 : Int) ≤ 1 ∧ (1 : Int) ≤ 3; omega, ⟨rfl, by show (0 : Int) ≤ 0 ∧ (0 : Int) < 1; omega, by show (0 : Int) ≤ 0 ∧ (0 : Int) < 2; omega⟩, by show (0 : Int) ≤ 0 ∧ (0 : Int) ≤ 4; omega, fun _ => by show (0 : Int) ≤ 0 ∧ (0 : Int) ≤ 11; omega, fun _ => Or.inl rfl, fun _ => by show (0 : Int) ≤ 0 ∧ (0 : Int) ≤ 3; omega, fun _ z => absurd rfl z, fun _ => by show (-2147483648 : Int) ≤ 0 ∧ (0 : Int) ≤ 2147483647; omega, fun _ _ => by show (0 : Int) ≤ 0 ∧ (0 : Int) ≤ 11; omega, fun _ => by show (0 : Int) ≤ 0 ∧ (0 : Int) ≤ 2; omega, fun _ => by show (0 : Int) ≤ 0 ∧ (0 : Int) ≤ 4; omega, fun _ => by show (0 : Int) ≤ 0 ∧ (0 : Int) ≤ 11; omega, fun _ => Or.inl rfl, fun _ => by show (0 : Int) ≤ 0 ∧ (0 : Int) ≤ 0; omega, fun _ z => absurd rfl z, fun _ => by show (0 : Int) ≤ 0 ∧ (0 : Int) ≤ 0; omega, fun _ z => absurd rfl z, Or.inl rfl, by show (0 : Int) ≤ 0 ∧ (0 : Int) ≤ 100; omega, fun _ => by show (0 : Int) ≤ 0 ∧ (0 : Int) ≤ 11; omega, fun _ => by show (0 : Int) ≤ 0 ∧ (0 : Int) ≤ 2; omega, fun _ _ => by show (0 : Int) < 1; omega, fun _ => by show (0 : Int) ≤ 0 ∧ (0 : Int) ≤ 2; omega, fun _ => by show (0 : Int) ≤ 0 ∧ (0 : Int) ≤ 4; omega, fun _ => by show (0 : Int) ≤ 0 ∧ (0 : Int) ≤ 11; omega, fun _ => Or.inl rfl, fun _ => by show (0 : Int) ≤ 0 ∧ (0 : Int) ≤ 1000000000000; omega⟩
theorem VI.s0 : VI s00 := fun _ => by show (0 : Int) ≤ 0 ∧ (0 : Int) ≤ 1000000000000; omega
/-! of the calls -/
def IV (s : St) : Prop := Inv s ∧ VI s
theorem iv_child {s : St} (h : IV s) (p : Int) : IV (sp_child s p).2 := by
  unfold sp_child
  split
  · exact h
  · rename_i c; exact ⟨h.1.child c, h.2⟩
theorem iv_need {s : St} (h : IV s) (k : Int) {z : Int} (hz : z = 0 ∨ z = 1) : IV (sp_need s k z).2 := by
  unfold sp_need
  split
  · exact h
  · rename_i c; exact ⟨h.1.need c hz, h.2⟩
theorem iv_drop {s : St} (h : IV s) : IV (sp_drop s).2 := ⟨h.1.drop, h.2⟩
theorem iv_bind {s : St} (h : IV s) (i k : Int) {w v : Int} (hw : w = 1 ∨ (w = 2 ∧ 0 ≤ v ∧ v ≤ 11)) (hv : r32 v) : IV (sp_bind s i k w v).2 := by
  have hinj := h.1.inj
  unfold sp_bind
  split
  · exact h
  · rename_i c
    have hpr : ((pr i k / 12 : Nat) : Int) = i := by unfold pr; omega
    exact ⟨h.1.bind (by omega) (by omega) hw hv, h.2⟩
theorem iv_bindLink {s : St} (h : IV s) (i k t : Int) (ht : r32 t) : IV (sp_bindLink s i k t).2 := by
  unfold sp_bindLink
  split
  · exact h
  · rename_i c; exact iv_bind h i k (Or.inr ⟨rfl, by omega⟩) ht
theorem iv_bindClass {s : St} (h : IV s) (i k c9 : Int) : IV (sp_bindClass s i k c9).2 := by
  have hinj := h.1.inj
  unfold sp_bindClass
  split
  · exact h
  · rename_i c
    have hpr : ((pr i k / 12 : Nat) : Int) = i := by unfold pr; omega
    exact ⟨h.1.bcl (by omega) (by omega) (by omega), h.2⟩
theorem iv_unbind {s : St} (h : IV s) (i k : Int) : IV (sp_unbind s i k).2 := by
  unfold sp_unbind
  split
  · exact h
  · exact ⟨h.1.unbind, h.2⟩
theorem iv_open {s : St} (h : IV s) : IV (sp_open s).2 := by
  unfold sp_open
  split
  · exact ⟨h.1.opn, h.2⟩
  · exact h
theorem iv_close {s : St} (h : IV s) : IV (sp_close s).2 := by
  unfold sp_close
  split
  · exact h
  · exact ⟨h.1.cls, h.2⟩
theorem xR.sq {cI cZ cJ cB : ClassId} {X : Nat → Nat} {O : Nat → Prop} {s s' : St} {σ : zh} (h : xR cI cZ cJ cB X O s σ) (e : seq s' s) : xR cI cZ cJ cB X O s' σ := by
  obtain ⟨bnd, mkr, g, hx⟩ := h
  refine ⟨bnd, mkr, g, ?_⟩
  have hx2 := hx.sq e
  have ek : (fun p => kpt s' p - 1) = fun p => kpt s p - 1 := by
    funext p
    unfold kpt
    rw [e.1 11 rfl, e.1 12 rfl]
  rw [ek]
  exact hx2
