/-! taking back -/
def cpd (u : St) : Prop := ∀ j, j < 36 → u 13 j = u 11 j ∧ u 14 j = u 12 j
theorem kcp_cpd (s : St) : cpd (kcp s 36) := by
  intro j hj
  show cp36 (s 13) (s 11) 36 j = s 11 j ∧ cp36 (s 14) (s 12) 36 j = s 12 j
  unfold cp36
  rw [if_pos hj, if_pos hj]
  exact ⟨rfl, rfl⟩
theorem kcp_o (s : St) {n f : Nat} (h : f ≠ 13) (h2 : f ≠ 14) : kcp s n f = s f := by
  unfold kcp
  rw [srow_n h2, srow_n h]
theorem kcp_inv {s : St} (h : Inv s) : Inv (kcp s 36) := Inv_o h (fun f _ h1 h2 => kcp_o s h1 h2)
theorem kcp_seq (s : St) : seq (kcp s 36) s := ⟨fun f hf => kcp_o s (by rintro rfl; cases hf) (by rintro rfl; cases hf), fun _ _ => ⟨rfl, rfl, rfl, rfl⟩, fun _ _ => ⟨rfl, rfl, rfl⟩⟩
theorem tbk_o {g : St} {m : Int} {n f : Nat} (h : f ≠ 11) (h2 : f ≠ 12) (h3 : f ≠ 23) : tbk g m n f = g f := by
  unfold tbk
  rw [srow_n h2, srow_n h, sup_n h3]
theorem back_ok {u : St} (hI : Inv u) (hv : VI u) (hc : cpd u) {i k : Nat} (hi : i < 3) (hk : k < 12) :
    (mgets u i k).1 = (rget 37 (fun _ => false) u i k).1 ∧ Inv (mgets u i k).2 ∧ VI (mgets u i k).2 ∧ sem (mgets u i k).2 (rget 37 (fun _ => false) u i k).2 ∧
    Inv (tbk (mgets u i k).2 (u 23 0) 36) ∧ VI (tbk (mgets u i k).2 (u 23 0) 36) ∧ seq (tbk (mgets u i k).2 (u 23 0) 36) u ∧ cpd (tbk (mgets u i k).2 (u 23 0) 36) := by
  obtain ⟨e1, e2⟩ := mgets_ok hI hi hk
  obtain ⟨o1, o2, o3, o4⟩ := rget_ok 37 (fun _ => false) u i k hI hi hk
  obtain ⟨q1, q2, q3, q4⟩ := mgets_mok hI hv hi hk
  generalize mgets u i k = g at e1 e2 q1 q2 q3 q4 ⊢
  generalize rget 37 (fun _ => false) u i k = r at e1 e2 o1 o2 o3 o4 ⊢
  obtain ⟨g1, g2, g3, g4, g5, g6, g7⟩ := o2
  have st : ∀ f, dyn f = false → f < 24 → g.2 f = u f := fun f h1 h2 => (e2 f (Or.inl h2)).trans (g1 f h1)
  have e11 : tbk g.2 (u 23 0) 36 11 = u 11 := by
    funext j
    show cp36 (g.2 11) (g.2 13) 36 j = u 11 j
    unfold cp36
    by_cases c : j < 36
    · rw [if_pos c, st 13 rfl (by omega)]; exact (hc j c).1
    · rw [if_neg c, e2 11 (by omega)]
      have := g3 j
      omega
  have e12 : tbk g.2 (u 23 0) 36 12 = u 12 := by
    funext j
    show cp36 (g.2 12) (g.2 14) 36 j = u 12 j
    unfold cp36
    by_cases c : j < 36
    · rw [if_pos c, st 14 rfl (by omega)]; exact (hc j c).2
    · rw [if_neg c, e2 12 (by omega)]
      have := g4 j
      omega
  have e23 : tbk g.2 (u 23 0) 36 23 = u 23 := by
    funext j
    show iup (g.2 23) 0 (u 23 0) j = u 23 j
    by_cases c : j = 0
    · subst c; rw [iup_s]
    · rw [iup_n c, e2 23 (by omega)]; exact g7 j c
  have hinst : ∀ i : Nat, (i : Int) < u 23 0 → g.2 16 i = u 16 i ∧ g.2 17 i = u 17 i ∧ g.2 18 i = u 18 i ∧ g.2 19 i = u 19 i := fun i hi => by
    rw [e2 16 (by omega), e2 17 (by omega), e2 18 (by omega), e2 19 (by omega)]; exact g5 i hi
  have hinst2 : ∀ j : Nat, (j : Int) < 4 * u 23 0 → g.2 20 j = u 20 j ∧ g.2 21 j = u 21 j ∧ g.2 22 j = u 22 j := fun i hi => by
    rw [e2 20 (by omega), e2 21 (by omega), e2 22 (by omega)]; exact g6 i hi
  refine ⟨e1, q1, q2.val, e2, ?_, q2.val, ⟨fun f hf => ?_, fun i hi => ?_, fun j hj => ?_⟩, fun j hj => ?_⟩
  · have z : ∀ f, f ≠ 11 → f ≠ 12 → f ≠ 23 → tbk g.2 (u 23 0) 36 f = g.2 f := fun f h1 h2 h3 => tbk_o h1 h2 h3
    have z0 : ∀ f, dyn f = false → f < 24 → tbk g.2 (u 23 0) 36 f = u f := fun f h1 h2 => (z f (by rintro rfl; cases h1) (by rintro rfl; cases h1) (by rintro rfl; cases h1)).trans (st f h1 h2)
    unfold Inv pOK
    rw [e11, e12, e23, z0 0 rfl (by omega), z0 1 rfl (by omega), z0 2 rfl (by omega), z0 3 rfl (by omega), z0 4 rfl (by omega), z0 5 rfl (by omega), z0 6 rfl (by omega), z0 7 rfl (by omega), z0 8 rfl (by omega), z0 9 rfl (by omega), z0 10 rfl (by omega), z0 15 rfl (by omega), z 16 (by omega) (by omega) (by omega), z 17 (by omega) (by omega) (by omega), z 18 (by omega) (by omega) (by omega), z 19 (by omega) (by omega) (by omega), z 20 (by omega) (by omega) (by omega), z 21 (by omega) (by omega) (by omega), z 22 (by omega) (by omega) (by omega)]
    exact ⟨hI.inj, hI.par, hI.bn, hI.bk, hI.bz, hI.kd, fun _ => hI.kj, hI.nu, fun _ => hI.lk, hI.sc, hI.nn, hI.nk, hI.nz, hI.si, fun _ => hI.si2, hI.re, fun _ => hI.re2, hI.op, hI.md, q1.ik, q1.ij, fun i hi => by rw [(hinst i hi).2.1]; exact hI.ij2 hi, q1.is, q1.inn, q1.ink, q1.iz, q1.ivv⟩
  · by_cases c1 : f = 11
    · subst c1; exact e11
    · by_cases c2 : f = 12
      · subst c2; exact e12
      · by_cases c3 : f = 23
        · subst c3; exact e23
        · rw [tbk_o c1 c2 c3]
          simp only [core, Bool.or_eq_true, decide_eq_true_eq, beq_iff_eq] at hf
          exact st f (by
            simp only [dyn, Bool.or_eq_false_iff, beq_eq_false_iff_ne, Bool.and_eq_false_iff, decide_eq_false_iff_not]
            omega) (by omega)
  · exact hinst i hi
  · exact hinst2 j hj
  · show g.2 13 j = tbk g.2 (u 23 0) 36 11 j ∧ g.2 14 j = tbk g.2 (u 23 0) 36 12 j
    rw [e11, e12, st 13 rfl (by omega), st 14 rfl (by omega)]
    exact hc j hj
/-- get, ask, broken -/
def sp_get (s : St) (i k : Int) : Int × St := if i < 0 ∨ s 1 0 ≤ i ∨ k < 0 ∨ 11 < k then (-1, s) else sget s i.toNat k.toNat
def sp_ask (s : St) (i n : Int) : Int × St := if i < 0 ∨ s 23 0 ≤ i ∨ n < 0 ∨ s 19 i.toNat ≤ n then (-1, s) else if s 21 (4 * i.toNat + n.toNat) = 1 then sget s (s 17 i.toNat).toNat (s 20 (4 * i.toNat + n.toNat)).toNat else (s 22 (4 * i.toNat + n.toNat), s)
def brk (s : St) (i : Nat) : Nat → Nat → Int
  | 0, _ => 12
  | n + 1, k => if 0 ≤ sn s i k ∧ (rget 37 (fun _ => false) s i k).1 < 0 then (k : Int) else brk s i n (k + 1)
def sp_broken (s : St) (i : Int) : Int := if i < 0 ∨ s 1 0 ≤ i then -1 else brk s i.toNat 12 0
theorem sget_cg {a b : St} (h : seq a b) (i k : Nat) : (sget a i k).1 = (sget b i k).1 := by
  unfold sget
  have e := (rget_cg 37 (fun _ => false) a b i k h.1).1
  by_cases c : (rget 37 (fun _ => false) b i k).1 < 0
  · rw [if_pos c, if_pos (by rw [e]; exact c)]; exact e
  · rw [if_neg c, if_neg (by rw [e]; exact c)]; exact e
/-- get: what the reference comes to -/
theorem get_ok {s : St} (hI : Inv s) (hv : VI s) {i k : Nat} (hi : i < 3) (hk : k < 12) :
    (mgets (kcp s 36) i k).1 = (sget s i k).1 ∧ -5 ≤ (sget s i k).1 ∧ (sget s i k).1 ≤ 1000000000000 ∧
    ((sget s i k).1 < 0 → Inv (tbk (mgets (kcp s 36) i k).2 (s 23 0) 36) ∧ VI (tbk (mgets (kcp s 36) i k).2 (s 23 0) 36) ∧ seq (tbk (mgets (kcp s 36) i k).2 (s 23 0) 36) (sget s i k).2) ∧
    (0 ≤ (sget s i k).1 → Inv (mgets (kcp s 36) i k).2 ∧ VI (mgets (kcp s 36) i k).2 ∧ seq (mgets (kcp s 36) i k).2 (sget s i k).2) := by
  obtain ⟨b1, b2, b3, b4, b5, b6, b7, -⟩ := back_ok (kcp_inv hI) (show VI (kcp s 36) from hv) (kcp_cpd s) hi hk
  have e := (rget_cg 37 (fun _ => false) (kcp s 36) s i k (kcp_seq s).1).1
  obtain ⟨o1, o2, o3, o4⟩ := rget_ok 37 (fun _ => false) s i k hI hi hk
  have es : (sget s i k).1 = (rget 37 (fun _ => false) s i k).1 := by
    unfold sget
    by_cases c : (rget 37 (fun _ => false) s i k).1 < 0
    · rw [if_pos c]
    · rw [if_neg c]
  refine ⟨by rw [b1, e, es], by omega, by omega, fun z => ⟨b5, b6, ?_⟩, fun z => ⟨b2, b3, ?_⟩⟩
  · have ez : (sget s i k).2 = s := by
      unfold sget
      rw [if_pos (by omega)]
    rw [ez]
    exact b7.tr (kcp_seq s)
  · have ez : (sget s i k).2 = (rget 37 (fun _ => false) s i k).2 := by
      unfold sget
      rw [if_neg (by omega)]
    rw [ez]
    have ex := (rget_cx 37 (fun _ => false) (kcp s 36) s i k (fun f hf => kcp_o s (by rintro rfl; cases hf) (by rintro rfl; cases hf))).2
    exact (sem_seq b4).tr ⟨fun f hf => ex f (by
      simp only [core, Bool.or_eq_true, decide_eq_true_eq, beq_iff_eq] at hf
      simp only [xok, Bool.and_eq_true, bne_iff_ne]
      omega), fun _ _ => by rw [ex 16 rfl, ex 17 rfl, ex 18 rfl, ex 19 rfl]; exact ⟨rfl, rfl, rfl, rfl⟩, fun _ _ => by rw [ex 20 rfl, ex 21 rfl, ex 22 rfl]; exact ⟨rfl, rfl, rfl⟩⟩
