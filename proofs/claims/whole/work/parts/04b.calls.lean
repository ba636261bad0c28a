/-! THE CALLS, as functions of the state: answer and new state -/
def badp (s : St) (i k : Int) : Prop := i < 0 ∨ s 1 0 ≤ i ∨ k < 0 ∨ 11 < k
def srow (s : St) (f : Nat) (g : Nat → Int) : St := fun h => if h = f then g else s h
theorem srow_s (s : St) (f : Nat) (g : Nat → Int) : srow s f g f = g := by simp [srow]
theorem srow_n {s : St} {f h : Nat} {g : Nat → Int} (e : h ≠ f) : srow s f g h = s h := by simp [srow, e]
theorem sup_srow (s : St) (f i : Nat) (v : Int) : sup s f i v = srow s f (iup (s f) i v) := rfl
theorem srow_srow (s : St) (f : Nat) (g h : Nat → Int) : srow (srow s f g) f h = srow s f h := by
  funext x
  by_cases e : x = f
  · subst e; rw [srow_s, srow_s]
  · rw [srow_n e, srow_n e, srow_n e]
theorem srow_comm (s : St) {f g : Nat} (u v : Nat → Int) (h : f ≠ g) : srow (srow s f u) g v = srow (srow s g v) f u := by
  funext x
  by_cases e : x = f
  · subst e; rw [srow_n h, srow_s, srow_s]
  · by_cases e2 : x = g
    · subst e2; rw [srow_s, srow_n e, srow_s]
    · rw [srow_n e2, srow_n e, srow_n e, srow_n e2]
theorem srow_self (s : St) (f : Nat) : srow s f (s f) = s := by
  funext x
  by_cases e : x = f
  · subst e; rw [srow_s]
  · rw [srow_n e]
def sp_child (s : St) (p : Int) : Int × St := if p < 0 ∨ s 1 0 ≤ p ∨ s 1 0 = 3 then (-1, s) else (s 1 0, sup (sup s 0 (s 1 0).toNat p) 1 0 (s 1 0 + 1))
def sp_need (s : St) (k z : Int) : Int × St := if k < 0 ∨ 11 < k ∨ s 4 0 = 4 then (-1, s) else (s 4 0 + 1, sup (sup (sup s 2 (s 4 0).toNat k) 3 (s 4 0).toNat z) 4 0 (s 4 0 + 1))
def sp_drop (s : St) : Int × St := (s 4 0, sup s 4 0 0)
def pr (i k : Int) : Nat := 12 * i.toNat + k.toNat
def sp_bind (s : St) (i k w v : Int) : Int × St := if i < 0 ∨ s 1 0 ≤ i ∨ k < 0 ∨ 11 < k ∨ s 5 (pr i k) ≠ 0 then (-1, s) else (1, sup (sup s 5 (pr i k) w) 6 (pr i k) v)
def sp_bindLink (s : St) (i k t : Int) : Int × St := if t < 0 ∨ 11 < t then (-1, s) else sp_bind s i k 2 t
def bcl (s : St) (p : Nat) (sc : Int) : St := sup (srow (srow (sup (sup (sup (sup s 5 p 3) 6 p 0) 7 p sc) 8 p (s 4 0)) 9 (cpn (s 9) (4 * p) (s 4 0).toNat (s 2))) 10 (cpn (s 10) (4 * p) (s 4 0).toNat (s 3))) 4 0 0
def sp_bindClass (s : St) (i k sc : Int) : Int × St := if sc < 0 ∨ 2 < sc ∨ i < 0 ∨ s 1 0 ≤ i ∨ k < 0 ∨ 11 < k ∨ s 5 (pr i k) ≠ 0 then (-1, s) else (s 4 0, bcl s (pr i k) sc)
def sp_unbind (s : St) (i k : Int) : Int × St := if i < 0 ∨ s 1 0 ≤ i ∨ k < 0 ∨ 11 < k ∨ s 5 (pr i k) = 0 then (-1, s) else (1, sup (sup (sup s 5 (pr i k) 0) 11 (pr i k) 0) 12 (pr i k) 0)
def sp_open (s : St) : Int × St := if s 15 0 = 0 then (1, sup s 15 0 1) else (-1, s)
def cntz (f : Nat → Int) : Nat → Int
  | 0 => 0
  | n + 1 => cntz f n + (if f n = 0 then 0 else 1)
theorem cntz_r (f : Nat → Int) : ∀ n, 0 ≤ cntz f n ∧ cntz f n ≤ n
  | 0 => ⟨Int.le_refl 0, Int.le_refl 0⟩
  | n + 1 => by
    have := cntz_r f n
    show 0 ≤ cntz f n + (if f n = 0 then 0 else 1) ∧ cntz f n + (if f n = 0 then 0 else 1) ≤ ((n + 1 : Nat) : Int)
    split <;> omega
def zer (f : Nat → Int) (n : Nat) : Nat → Int := fun j => if j < n then 0 else f j
def sp_close (s : St) : Int × St := if s 15 0 = 0 then (-1, s) else (cntz (s 12) 36, srow (sup s 15 0 0) 12 (zer (s 12) 36))
