/-! THE CALLS, as functions of the state: answer and new state -/
def badp (s : St) (i k : Int) : Prop := i < 0 ∨ s 1 0 ≤ i ∨ k < 0 ∨ 11 < k
def srow (s : St) (f : Nat) (g : Nat → Int) : St := fun h => if h = f then g else s h
theorem srow_s (s : St) (f : Nat) (g : Nat → Int) : srow s f g f = g := by simp [srow]
theorem srow_n {s : St} {f h : Nat} {g : Nat → Int} (e : h ≠ f) : srow s f g h = s h := by simp [srow, e]
theorem sup_srow (s : St) (f i : Nat) (v : Int) : sup s f i v = srow s f (iup (s f) i v) := rfl
theorem srow_srow (s : St) (f : Nat) (g h : Nat → Int) : srow (srow s f g) f h = srow s f h := by
  funext x
  by_cases e : x = f
  · subst e; rw [srow_s, srow_s]
  · rw [srow_n e, srow_n e, srow_n e]
theorem srow_comm (s : St) {f g : Nat} (u v : Nat → Int) (h : f ≠ g) : srow (srow s f u) g v = srow (srow s g v) f u := by
  funext x
  by_cases e : x = f
  · subst e; rw [srow_n h, srow_s, srow_s]
  · by_cases e2 : x = g
    · subst e2; rw [srow_s, srow_n e, srow_s]
    · rw [srow_n e2, srow_n e, srow_n e, srow_n e2]
theorem srow_self (s : St) (f : Nat) : srow s f (s f) = s := by
  funext x
  by_cases e : x = f
  · subst e; rw [srow_s]
  · rw [srow_n e]
def sp_child (s : St) (p : Int) : Int × St := if p < 0 ∨ s 1 0 ≤ p ∨ s 1 0 = 3 then (-1, s) else (s 1 0, sup (sup s 0 (s 1 0).toNat p) 1 0 (s 1 0 + 1))
def sp_need (s : St) (k z : Int) : Int × St := if k < 0 ∨ 11 < k ∨ s 4 0 = 4 then (-1, s) else (s 4 0 + 1, sup (sup (sup s 2 (s 4 0).toNat k) 3 (s 4 0).toNat z) 4 0 (s 4 0 + 1))
def sp_drop (s : St) : Int × St := (s 4 0, sup s 4 0 0)
def pr (i k : Int) : Nat := 12 * i.toNat + k.toNat
def sp_bind (s : St) (i k w v : Int) : Int × St := if i < 0 ∨ s 1 0 ≤ i ∨ k < 0 ∨ 11 < k ∨ s 5 (pr i k) ≠ 0 then (-1, s) else (1, sup (sup s 5 (pr i k) w) 6 (pr i k) v)
def sp_bindLink (s : St) (i k t : Int) : Int × St := if t < 0 ∨ 11 < t then (-1, s) else sp_bind s i k 2 t
def bcl (s : St) (p : Nat) (sc : Int) : St := sup (srow (srow (sup (sup (sup (sup s 5 p 3) 6 p 0) 7 p sc) 8 p (s 4 0)) 9 (cpn (s 9) (4 * p) (s 4 0).toNat (s 2))) 10 (cpn (s 10) (4 * p) (s 4 0).toNat (s 3))) 4 0 0
def sp_bindClass (s : St) (i k sc : Int) : Int × St := if sc < 0 ∨ 2 < sc ∨ i < 0 ∨ s 1 0 ≤ i ∨ k < 0 ∨ 11 < k ∨ s 5 (pr i k) ≠ 0 then (-1, s) else (s 4 0, bcl s (pr i k) sc)
def sp_unbind (s : St) (i k : Int) : Int × St := if i < 0 ∨ s 1 0 ≤ i ∨ k < 0 ∨ 11 < k ∨ s 5 (pr i k) = 0 then (-1, s) else (1, sup (sup (sup s 5 (pr i k) 0) 11 (pr i k) 0) 12 (pr i k) 0)
def sp_open (s : St) : Int × St := if s 15 0 = 0 then (1, sup s 15 0 1) else (-1, s)
def cntz (f : Nat → Int) : Nat → Int
  | 0 => 0
  | n + 1 => cntz f n + (if f n = 0 then 0 else 1)
theorem cntz_r (f : Nat → Int) : ∀ n, 0 ≤ cntz f n ∧ cntz f n ≤ n
  | 0 => ⟨Int.le_refl 0, Int.le_refl 0⟩
  | n + 1 => by
    have := cntz_r f n
    show 0 ≤ cntz f n + (if f n = 0 then 0 else 1) ∧ cntz f n + (if f n = 0 then 0 else 1) ≤ ((n + 1 : Nat) : Int)
    split <;> omega
def zer (f : Nat → Int) (n : Nat) : Nat → Int := fun j => if j < n then 0 else f j
def sp_close (s : St) : Int × St := if s 15 0 = 0 then (-1, s) else (cntz (s 12) 36, srow (sup s 15 0 0) 12 (zer (s 12) 36))
theorem zer_0 (f : Nat → Int) : zer f 0 = f := by funext j; simp [zer]
theorem zer_1 (f : Nat → Int) (k : Nat) : iup (zer f k) k 0 = zer f (k + 1) := by
  funext j
  unfold iup zer
  by_cases e : j = k
  · subst e; simp
  · by_cases e2 : j < k
    · rw [if_neg e, if_pos e2, if_pos (by omega)]
    · rw [if_neg e, if_neg e2, if_neg (by omega)]
def cp36 (g f : Nat → Int) (n : Nat) : Nat → Int := fun j => if j < n then f j else g j
theorem cp36_0 (g f : Nat → Int) : cp36 g f 0 = g := by funext j; simp [cp36]
theorem cp36_1 (g f : Nat → Int) (k : Nat) : iup (cp36 g f k) k (f k) = cp36 g f (k + 1) := by
  funext j
  unfold iup cp36
  by_cases e : j = k
  · subst e; simp
  · by_cases e2 : j < k
    · rw [if_neg e, if_pos e2, if_pos (by omega)]
    · rw [if_neg e, if_neg e2, if_neg (by omega)]
def kcp (s : St) (n : Nat) : St := srow (srow s 13 (cp36 (s 13) (s 11) n)) 14 (cp36 (s 14) (s 12) n)
def tbk (s : St) (m : Int) (n : Nat) : St := srow (srow (sup s 23 0 m) 11 (cp36 (s 11) (s 13) n)) 12 (cp36 (s 12) (s 14) n)
theorem kcp_0 (s : St) : kcp s 0 = s := by unfold kcp; rw [cp36_0, cp36_0, srow_self]; exact srow_self s 14
theorem tbk_0 (s : St) (m : Int) : tbk s m 0 = sup s 23 0 m := by
  unfold tbk
  rw [cp36_0, cp36_0]
  have e1 : srow (sup s 23 0 m) 11 (s 11) = sup s 23 0 m := srow_self (sup s 23 0 m) 11
  rw [e1]
  exact srow_self (sup s 23 0 m) 12
theorem kcp_1 (s : St) (k : Nat) : sup (sup (kcp s k) 13 k (s 11 k)) 14 k (s 12 k) = kcp s (k + 1) := by
  unfold kcp
  rw [sup_srow, sup_srow]
  have e1 : (srow (srow s 13 (cp36 (s 13) (s 11) k)) 14 (cp36 (s 14) (s 12) k)) 13 = cp36 (s 13) (s 11) k := rfl
  rw [e1, cp36_1]
  have e2 : (srow (srow (srow s 13 (cp36 (s 13) (s 11) k)) 14 (cp36 (s 14) (s 12) k)) 13 (cp36 (s 13) (s 11) (k + 1))) 14 = cp36 (s 14) (s 12) k := rfl
  rw [e2, cp36_1]
  funext x
  by_cases x1 : x = 14
  · subst x1; rw [srow_s, srow_s]
  · rw [srow_n x1, srow_n x1]
    by_cases x2 : x = 13
    · subst x2; rw [srow_s, srow_s]
    · rw [srow_n x2, srow_n x2, srow_n x1, srow_n x2]
theorem tbk_1 (s : St) (m : Int) (k : Nat) : sup (sup (tbk s m k) 11 k (s 13 k)) 12 k (s 14 k) = tbk s m (k + 1) := by
  unfold tbk
  generalize hu : sup s 23 0 m = u
  rw [sup_srow, sup_srow]
  have e1 : (srow (srow u 11 (cp36 (s 11) (s 13) k)) 12 (cp36 (s 12) (s 14) k)) 11 = cp36 (s 11) (s 13) k := rfl
  rw [e1, cp36_1]
  have e2 : (srow (srow (srow u 11 (cp36 (s 11) (s 13) k)) 12 (cp36 (s 12) (s 14) k)) 11 (cp36 (s 11) (s 13) (k + 1))) 12 = cp36 (s 12) (s 14) k := rfl
  rw [e2, cp36_1]
  funext x
  by_cases x1 : x = 12
  · subst x1; rw [srow_s, srow_s]
  · rw [srow_n x1, srow_n x1]
    by_cases x2 : x = 11
    · subst x2; rw [srow_s, srow_s]
    · rw [srow_n x2, srow_n x2, srow_n x1, srow_n x2]
/-- about, count, home, held -/
def sp_about (s : St) (i w : Int) : Int := if i < 0 ∨ s 23 0 ≤ i then -1 else if w = 0 then s 16 i.toNat else if w = 1 then s 17 i.toNat else if w = 2 then s 19 i.toNat else if w = 3 then s 18 i.toNat else -1
def sp_count (s : St) (w : Int) : Int := if w = 0 then s 1 0 else if w = 1 then s 23 0 else if w = 2 then cntz (s 5) 36 else if w = 3 then cntz (s 11) 36 else if w = 4 then cntz (s 12) 36 else if w = 5 then s 15 0 else -1
def sp_home (s : St) (i k : Int) : Int := if i < 0 ∨ s 1 0 ≤ i ∨ k < 0 ∨ 11 < k then -1 else if sn s i.toNat k.toNat < 0 then 3 else sn s i.toNat k.toNat / 12
def sp_held (s : St) (i n : Int) : Int := if i < 0 ∨ s 23 0 ≤ i ∨ n < 0 ∨ s 19 i.toNat ≤ n then -1 else s 22 (4 * i.toNat + n.toNat)
theorem sn_r {s : St} (h : Inv s) {i k : Nat} (hi : i < 3) (hk : k < 12) : -1 ≤ sn s i k ∧ sn s i k < 36 := by
  rcases sn_cases h.par (key := k) hi with e | ⟨j, hj, e, -⟩
  · omega
  · omega
theorem zer_00 (s : St) : srow (sup s 15 0 0) 12 (zer (s 12) 0) = sup s 15 0 0 := by
  rw [zer_0]
  exact srow_self (sup s 15 0 0) 12
