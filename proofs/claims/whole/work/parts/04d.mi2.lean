theorem mneeds_ok {p me : Nat} (hp : p < 36) : ∀ (n : Nat) (s : St), Inv s → MI s → (me : Int) + 1 = s 27 0 → s 5 p = 3 → ¬ (s 7 p = 2 ∧ s 15 0 = 0) → n = (s 8 p - s 25 me).toNat → mok (mneeds p me n s) ∧ (0 ≤ (mneeds p me n s).1 → (mneeds p me n s).2 27 = s 27)
  | 0, s, hI, h, hme, h3, hno, hn => by
    refine ⟨mmake_ok hI h hp h3 hno, fun _ => ?_⟩
    show (mmake s p me).2 27 = s 27
    unfold mmake
    by_cases c : s 23 0 = 100
    · rw [if_pos c]
    · rw [if_neg c]; exact mk_o (st := s) (p := p) (vs := fun k => s 26 (4 * me + k)) (f := 27) rfl
  | n + 1, s, hI, h, hme, h3, hno, hn => by
    have hnn := hI.nn p
    have hgt := h.got (j := me) (by omega)
    obtain ⟨⟨o1, o2, o3, o4⟩, o5⟩ := mone_ok hI h hp hme (by omega)
    have es : mneeds p me (n + 1) s = if (mone s p me).1 < 0 then mone s p me else mneeds p me n (mput (mone s p me).2 me (mone s p me).1) := rfl
    by_cases c : (mone s p me).1 < 0
    · rw [es, if_pos c]
      exact ⟨⟨o1, o2, o3, o4⟩, fun z => absurd z (by omega)⟩
    · rw [es, if_neg c, o5 (by omega)]
      have hM := h.put hme (by omega) (v := (mone s p me).1) (by omega)
      obtain ⟨k1, k2⟩ := mneeds_ok hp n (mput s me (mone s p me).1) (Inv_sem (sem_mput (fun _ _ => rfl) me _) hI) hM (by rw [mput_27]; exact hme) h3 hno (by
        rw [mput_25, iup_s]
        show n = (s 8 p - (s 25 me + 1)).toNat
        omega)
      exact ⟨k1, fun z => (k2 z).trans (mput_27 _ _ _)⟩
theorem mwork_ok {s : St} (hI : Inv s) (h : MI s) (ht : 0 < s 27 0) : mok (mwork s) ∧ (0 ≤ (mwork s).1 → (mwork s).2 27 = s 27) := by
  obtain ⟨t, et⟩ := Int.eq_ofNat_of_zero_le (show 0 ≤ s 27 0 - 1 by omega)
  have t27 : s 27 0 = (t : Int) + 1 := by omega
  obtain ⟨f1, f2, f3⟩ := h.fr (j := t) (by omega)
  obtain ⟨p, ep⟩ := Int.eq_ofNat_of_zero_le f1
  rw [mwork_at t27 ep]
  rw [ep, Int.toNat_natCast] at f3
  have hp : p < 36 := by omega
  unfold mworkp
  by_cases c : s 5 p = 2
  · rw [if_pos c]
    have hlk := hI.lk c
    by_cases c2 : s 25 t = 0
    · rw [if_pos c2]
      obtain ⟨a1, a2, a3, a4, a5⟩ := mbegin_ok hI h (fun j hj => by
        by_cases e : j = t
        · rw [e, c2]; omega
        · exact h.got3 (by omega)) (i := p / 12) (k := (s 6 p).toNat) (by omega) (by omega)
      exact ⟨⟨a1, a2, a3, a4⟩, fun z => by rw [a5 (by omega)]⟩
    · rw [if_neg c2]
      have hv := h.val (4 * t)
      exact ⟨⟨hI, h, by show -100 ≤ s 26 (4 * t); omega, by show s 26 (4 * t) ≤ _; omega⟩, fun _ => rfl⟩
  · rw [if_neg c]
    rcases f3 with f3 | f3
    · exact absurd f3 c
    · exact mneeds_ok hp _ s hI h (by omega) f3.1 f3.2 rfl
theorem MI.tk {s : St} (h : MI s) (ht : 0 < s 27 0) {v : Int} (hv : 0 ≤ v ∧ v ≤ 1000000000000) : MI (mtk s v) := by
  obtain ⟨t, et⟩ := Int.eq_ofNat_of_zero_le (show 0 ≤ s 27 0 - 1 by omega)
  have e25 : mtk s v 25 = iup (s 25) t 1 := by
    show iup (s 25) (s 27 0 - 1).toNat 1 = _
    rw [et, Int.toNat_natCast]
  have e26 : mtk s v 26 = iup (s 26) (4 * (s 27 0 - 1).toNat) v := rfl
  have hf' : ∀ q, fok s q → fok (mtk s v) q := fun q => fok_mv rfl rfl rfl
  refine ⟨h.top, fun j hj => hf' _ (h.fr hj), fun i j hi hj e => h.dis hi hj e, fun j hj => ?_, fun j hj => ?_, fun j => ?_⟩
  · rw [e25]
    by_cases c : j = t
    · rw [c, iup_s]; omega
    · rw [iup_n c]; exact h.got hj
  · rw [e25]
    by_cases c : j = t
    · rw [c, iup_s]; omega
    · rw [iup_n c]; exact h.got3 hj
  · rw [e26]
    by_cases c : j = 4 * (s 27 0 - 1).toNat
    · rw [c, iup_s]; exact hv
    · rw [iup_n c]; exact h.val j
theorem MI.pop {s : St} (h : MI s) (ht : 0 < s 27 0) : MI (mpop s) := by
  have e := mpop_27 s
  have hf' : ∀ q, fok s q → fok (mpop s) q := fun q => fok_mv rfl rfl rfl
  have htop := h.top
  exact ⟨by omega, fun j hj => hf' _ (h.fr (by omega)), fun i j hi hj e => h.dis (by omega) (by omega) e, fun j hj => h.got (j := j) (by omega), fun j hj => h.got3 (j := j) (by omega), h.val⟩
theorem MI.del {s : St} (h : MI s) (ht : 1 < s 27 0) {v : Int} (hv : 0 ≤ v ∧ v ≤ 1000000000000) : MI (mdel (mpop s) v) := by
  have e := mpop_27 s
  have hP := h.pop (by omega)
  obtain ⟨t, et⟩ := Int.eq_ofNat_of_zero_le (show 0 ≤ mpop s 27 0 - 1 by omega)
  unfold mdel
  rw [et, Int.toNat_natCast]
  exact hP.put (by omega) (h.got3 (j := t) (by omega)) hv
theorem Inv_o {a b : St} (hb : Inv b) (h : ∀ f, f < 24 → f ≠ 13 → f ≠ 14 → a f = b f) : Inv a := by
  unfold Inv pOK
  rw [h 0 (by omega) (by omega) (by omega), h 1 (by omega) (by omega) (by omega), h 2 (by omega) (by omega) (by omega), h 3 (by omega) (by omega) (by omega), h 4 (by omega) (by omega) (by omega), h 5 (by omega) (by omega) (by omega), h 6 (by omega) (by omega) (by omega), h 7 (by omega) (by omega) (by omega), h 8 (by omega) (by omega) (by omega), h 9 (by omega) (by omega) (by omega), h 10 (by omega) (by omega) (by omega), h 11 (by omega) (by omega) (by omega), h 12 (by omega) (by omega) (by omega), h 15 (by omega) (by omega) (by omega), h 16 (by omega) (by omega) (by omega), h 17 (by omega) (by omega) (by omega), h 18 (by omega) (by omega) (by omega), h 19 (by omega) (by omega) (by omega), h 20 (by omega) (by omega) (by omega), h 21 (by omega) (by omega) (by omega), h 22 (by omega) (by omega) (by omega), h 23 (by omega) (by omega) (by omega)]
  exact hb
theorem mloop_ok : ∀ (n : Nat) (v : Int) (s : St), Inv s → MI s → -100 ≤ v → v ≤ 1000000000000 → mok (mloop n v s)
  | 0, v, s, hI, h, h1, h2 => ⟨hI, h, h1, h2⟩
  | n + 1, v, s, hI, h, h1, h2 => by
    have es : mloop (n + 1) v s = if s 27 0 ≤ 0 then (v, s) else if v < 0 ∧ v ≠ -100 then (v, s) else mcont (mloop n) (mwork s) (s 27 0) := rfl
    rw [es]
    by_cases c : s 27 0 ≤ 0
    · rw [if_pos c]; exact ⟨hI, h, h1, h2⟩
    · rw [if_neg c]
      by_cases c2 : v < 0 ∧ v ≠ -100
      · rw [if_pos c2]; exact ⟨hI, h, h1, h2⟩
      · rw [if_neg c2]
        obtain ⟨⟨w1, w2, w3, w4⟩, w5⟩ := mwork_ok hI h (by omega)
        generalize mwork s = w at w1 w2 w3 w4 w5
        unfold mcont
        by_cases c3 : w.1 < 0
        · rw [if_pos c3]; exact mloop_ok n _ _ w1 w2 w3 w4
        · rw [if_neg c3]
          have e27 : w.2 27 0 = s 27 0 := by rw [w5 (by omega)]
          by_cases c4 : w.2 27 0 = s 27 0 ∧ w.2 5 (w.2 24 (w.2 27 0 - 1).toNat).toNat = 2 ∧ w.2 25 (w.2 27 0 - 1).toNat = 0
          · rw [if_pos c4]
            exact mloop_ok n _ _ (Inv_sem (b := w.2) (fun f hf => by unfold mtk; rw [sup_n (by omega), sup_n (by omega)]) w1) (w2.tk (by omega) (by omega)) w3 w4
          · rw [if_neg c4]
            have ep := mpop_27 w.2
            by_cases c5 : mpop w.2 27 0 = 0
            · rw [if_pos c5]
              exact ⟨Inv_sem (a := mpop w.2) (b := w.2) (fun f hf => by unfold mpop; rw [sup_n (by omega)]) w1, w2.pop (by omega), w3, w4⟩
            · rw [if_neg c5]
              have hpd : sem (mdel (mpop w.2) w.1) w.2 := fun f hf => by
                unfold mdel
                rw [stat_mput _ _ f hf]
                unfold mpop
                rw [sup_n (by omega)]
              have htp := w2.top
              exact mloop_ok n _ _ (Inv_sem hpd w1) (w2.del (by omega) (by omega)) w3 w4
/-- what stays of the machine between the calls -/
def VI (s : St) : Prop := ∀ j, 0 ≤ s 26 j ∧ s 26 j ≤ 1000000000000
theorem VI.mi {s : St} (h : VI s) : MI (sup s 27 0 0) := by
  have e : sup s 27 0 0 27 0 = 0 := show iup (s 27) 0 0 0 = _ from iup_s _ _ _
  exact ⟨by omega, fun j hj => absurd hj (by omega), fun i j hi => absurd hi (by omega), fun j hj => absurd hj (by omega), fun j hj => absurd hj (by omega), h⟩
theorem mgets_mok {s : St} (hI : Inv s) (h : VI s) {i k : Nat} (hi : i < 3) (hk : k < 12) : mok (mgets s i k) := by
  unfold mgets
  have hI' : Inv (sup s 27 0 0) := Inv_sem (b := s) (fun f hf => sup_n (by omega)) hI
  have e : sup s 27 0 0 27 0 = 0 := show iup (s 27) 0 0 0 = _ from iup_s _ _ _
  obtain ⟨a1, a2, a3, a4, -⟩ := mbegin_ok hI' h.mi (fun j hj => absurd hj (by omega)) hi hk
  exact mloop_ok _ _ _ a1 a2 a3 a4
/-! make, piece by piece -/
theorem srow3_sup (u : St) (a b c : Nat → Int) (x y z : Nat) (v w q : Int) : sup (sup (sup (srow (srow (srow u 20 a) 21 b) 22 c) 20 x v) 21 y w) 22 z q = srow (srow (srow u 20 (iup a x v)) 21 (iup b y w)) 22 (iup c z q) := by
  funext f
  by_cases f0 : f = 22
  · subst f0; rfl
  · by_cases f1 : f = 21
    · subst f1; rfl
    · by_cases f2 : f = 20
      · subst f2; rfl
      · rw [sup_n f0, sup_n f1, sup_n f2, srow_n f0, srow_n f1, srow_n f2, srow_n f0, srow_n f1, srow_n f2]
def mk1 (s : St) (p : Nat) : St := sup (sup (sup (sup s 16 (s 23 0).toNat ((p % 12 : Nat) : Int)) 17 (s 23 0).toNat ((p / 12 : Nat) : Int)) 18 (s 23 0).toNat (s 7 p)) 19 (s 23 0).toNat (s 8 p)
def mk2 (s : St) (p w n : Nat) : St := srow (srow (srow (mk1 s p) 20 (cpn (s 20) (4 * (s 23 0).toNat) n (fun k => s 9 (4 * p + k)))) 21 (cpn (s 21) (4 * (s 23 0).toNat) n (fun k => s 10 (4 * p + k)))) 22 (cpn (s 22) (4 * (s 23 0).toNat) n (fun k => s 26 (4 * w + k)))
theorem mk2_0 (s : St) (p w : Nat) : mk2 s p w 0 = mk1 s p := by
  unfold mk2
  rw [cpn_0, cpn_0, cpn_0]
  funext f
  by_cases f0 : f = 22
  · subst f0; rfl
  · by_cases f1 : f = 21
    · subst f1; rfl
    · by_cases f2 : f = 20
      · subst f2; rfl
      · rw [srow_n f0, srow_n f1, srow_n f2]
theorem mk2_1 (s : St) (p w n : Nat) : sup (sup (sup (mk2 s p w n) 20 (4 * (s 23 0).toNat + n) (s 9 (4 * p + n))) 21 (4 * (s 23 0).toNat + n) (s 10 (4 * p + n))) 22 (4 * (s 23 0).toNat + n) (s 26 (4 * w + n)) = mk2 s p w (n + 1) := by
  unfold mk2
  rw [srow3_sup]
  rw [show iup (cpn (s 20) (4 * (s 23 0).toNat) n fun k => s 9 (4 * p + k)) (4 * (s 23 0).toNat + n) (s 9 (4 * p + n)) = cpn (s 20) (4 * (s 23 0).toNat) (n + 1) (fun k => s 9 (4 * p + k)) from cpn_1 (h := fun k => s 9 (4 * p + k))]
  rw [show iup (cpn (s 21) (4 * (s 23 0).toNat) n fun k => s 10 (4 * p + k)) (4 * (s 23 0).toNat + n) (s 10 (4 * p + n)) = cpn (s 21) (4 * (s 23 0).toNat) (n + 1) (fun k => s 10 (4 * p + k)) from cpn_1 (h := fun k => s 10 (4 * p + k))]
  rw [show iup (cpn (s 22) (4 * (s 23 0).toNat) n fun k => s 26 (4 * w + k)) (4 * (s 23 0).toNat + n) (s 26 (4 * w + n)) = cpn (s 22) (4 * (s 23 0).toNat) (n + 1) (fun k => s 26 (4 * w + k)) from cpn_1 (h := fun k => s 26 (4 * w + k))]
def mk3 (s : St) (p w : Nat) : St := sup (mk2 s p w (s 8 p).toNat) 23 0 (s 23 0 + 1)
theorem mk3_o {s : St} {p w f : Nat} (h : f ≠ 11) (h2 : f ≠ 12) : mk3 s p w f = mk s p (fun k => s 26 (4 * w + k)) f := by
  unfold mk
  rw [if_neg h, if_neg h2]
  by_cases c1 : f = 16
  · subst c1; rfl
  · rw [if_neg c1]
    by_cases c2 : f = 17
    · subst c2; rfl
    · rw [if_neg c2]
      by_cases c3 : f = 18
      · subst c3; rfl
      · rw [if_neg c3]
        by_cases c4 : f = 19
        · subst c4; rfl
        · rw [if_neg c4]
          by_cases c5 : f = 20
          · subst c5; rfl
          · rw [if_neg c5]
            by_cases c6 : f = 21
            · subst c6; rfl
            · rw [if_neg c6]
              by_cases c7 : f = 22
              · subst c7; rfl
              · rw [if_neg c7]
                by_cases c8 : f = 23
                · subst c8; rfl
                · rw [if_neg c8]
                  unfold mk3 mk2 mk1
                  rw [sup_n c8, srow_n c7, srow_n c6, srow_n c5, sup_n c4, sup_n c3, sup_n c2, sup_n c1]
theorem mk3_n {s : St} {p w : Nat} (h1 : s 7 p ≠ 1) (h2 : s 7 p ≠ 2) : mk3 s p w = mk s p (fun k => s 26 (4 * w + k)) := by
  funext f
  by_cases c1 : f = 11
  · subst c1
    show s 11 = (if s 7 p = 1 then iup (s 11) p (s 23 0 + 1) else s 11)
    rw [if_neg h1]
  · by_cases c2 : f = 12
    · subst c2
      show s 12 = (if s 7 p = 2 then iup (s 12) p (s 23 0 + 1) else s 12)
      rw [if_neg h2]
    · exact mk3_o c1 c2
theorem mk3_1 {s : St} {p w : Nat} (h1 : s 7 p = 1) : sup (mk3 s p w) 11 p (s 23 0 + 1) = mk s p (fun k => s 26 (4 * w + k)) := by
  funext f
  by_cases c1 : f = 11
  · subst c1
    show iup (s 11) p (s 23 0 + 1) = (if s 7 p = 1 then iup (s 11) p (s 23 0 + 1) else s 11)
    rw [if_pos h1]
  · rw [sup_n c1]
    by_cases c2 : f = 12
    · subst c2
      show s 12 = (if s 7 p = 2 then iup (s 12) p (s 23 0 + 1) else s 12)
      rw [if_neg (by omega)]
    · exact mk3_o c1 c2
theorem mk3_2 {s : St} {p w : Nat} (h1 : s 7 p = 2) : sup (mk3 s p w) 12 p (s 23 0 + 1) = mk s p (fun k => s 26 (4 * w + k)) := by
  funext f
  by_cases c2 : f = 12
  · subst c2
    show iup (s 12) p (s 23 0 + 1) = (if s 7 p = 2 then iup (s 12) p (s 23 0 + 1) else s 12)
    rw [if_pos h1]
  · rw [sup_n c2]
    by_cases c1 : f = 11
    · subst c1
      show s 11 = (if s 7 p = 1 then iup (s 11) p (s 23 0 + 1) else s 11)
      rw [if_neg (by omega)]
    · exact mk3_o c1 c2
