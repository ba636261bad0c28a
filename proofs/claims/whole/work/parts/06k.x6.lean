section XC6
variable {l : Launch} {D : va_G} {A : Nat → Prop} {cI cZ cJ cB : ClassId} {X : Nat → Nat} {O : Nat → Prop} {bnd mkr : Nat → Option Nat} {g : Nat → Nat → Int} {σ : zh} {s : St} {kp wk : Nat → Int}
set_option maxRecDepth 100000 in
set_option maxHeartbeats 4000000 in
theorem cX_unmakeFrom (f : Int) (hI : Inv s) (hx : xG cI cZ cJ cB X O bnd mkr g s kp wk σ) (hf : 0 ≤ f ∧ f ≤ s 23 0) : zM l D vwCl A (ztys cI cZ cJ cB) (zF A X) y_X_unmakeFrom ws_X_unmakeFrom (zroom 0 0 0) [.ref (X 0), iv f] σ (fun r σ' => r = none ∧ xG cI cZ cJ cB X O bnd mkr g (sup s 23 0 f) (kr kp f 36) wk σ' ∧ xF O σ σ') := by
  refine zMet2 (zF_ok A X) (by decide) (Nat.le_of_ble_eq_true rfl) (fun K hKl C => ?_)
  obtain ⟨hO, hX, h1, h2, h3, h4, h5, hB, hBf, hbn, hmk, hvl, hwk, hkp, hk1, hk2, hk3⟩ := id hx
  have hmd := hI.md
  have loop : ∀ (n q : Nat) (σ1 : zh), q + n = 36 → xG cI cZ cJ cB X O bnd mkr g s (kr kp f q) wk σ1 → xF O σ σ1 → ∀ a5 : Option Value, zJ K D vwCl A 6 (zQ K D vwCl A (fun r σ' => r = none ∧ xG cI cZ cJ cB X O bnd mkr g (sup s 23 0 f) (kr kp f 36) wk σ' ∧ xF O σ σ') 0 0) 0 0 σ1 11 [some (.ref (X 0)), some (iv f), some (.ref (X 2)), some (iv 36), some (iv (q : Int)), a5] [] := by
    intro n
    induction n with
    | zero =>
      intro q σ1 hq hx1 hF1 a5
      have e : q = 36 := by omega
      subst e
      refine z_iload C d_X_unmakeFrom_11 rfl ?_
      refine z_iload_n C d_X_unmakeFrom_13 rfl ?_
      refine z_icmp_ge C 49 (by omega) (by omega) d_X_unmakeFrom_14 (by decide) (fun h14 => ?_) (fun h14 => absurd h14 (by omega))
      refine z_aload_n C d_X_unmakeFrom_49 rfl ?_
      refine z_iload_n C d_X_unmakeFrom_50 rfl ?_
      refine z_put C in_X t_X tk_X nm_X hx1.2.1 rfl 7 (by decide) tw_fl_X_143 rfl rfl (tk_X 7 (by decide)) rfl rfl (Nat.le_of_ble_eq_true rfl) d_X_unmakeFrom_51 ?_
      refine z_eq (σ' := zput σ1 (X 0) (ob 2 (xfs X (sup s 23 0 f)))) rfl rfl rfl ?_
      exact z_vret C d_X_unmakeFrom_54 (by decide) (by decide) (⟨rfl, hx1.o23 f hf.2, hF1.tr (xF.off hx1.1.1 hx1.2.1 (fun _ h => (by cases h)) (fun _ h => (by cases h)) (fun _ _ h => (by cases h)))⟩)
    | succ n ih =>
      intro q σ1 hq hx1 hF1 a5
      refine z_iload C d_X_unmakeFrom_11 rfl ?_
      refine z_iload_n C d_X_unmakeFrom_13 rfl ?_
      refine z_icmp_ge C 49 (by omega) (by omega) d_X_unmakeFrom_14 (by decide) (fun h14 => absurd h14 (by omega)) (fun h14 => ?_)
      refine z_aload_n C d_X_unmakeFrom_17 rfl ?_
      refine z_iload C d_X_unmakeFrom_18 rfl ?_
      refine z_aald C 3 rfl hx1.2.2.2.1 q rfl (by omega) (by decide) d_X_unmakeFrom_20 ?_
      rcases hq : bnd q with _ | a
      · rw [show va_rf none = Value.null from rfl]
        have hx2 : xG cI cZ cJ cB X O bnd mkr g s (kr kp f (q + 1)) wk σ1 := hx1.kpc (fun t ht hne => by
          unfold kr
          by_cases e : t = q
          · subst e; exact absurd hq hne
          · by_cases c2 : t < q ∧ f ≤ kp t
            · rw [if_pos c2, if_pos (by omega)]
            · rw [if_neg c2, if_neg (by omega)]) (fun t => by
          have := hkp t
          unfold kr
          split <;> omega)
        refine z_astoreN C d_X_unmakeFrom_21 (by decide) ?_
        refine z_aloadN C d_X_unmakeFrom_23 rfl ?_
        refine z_ifnullN C 43 d_X_unmakeFrom_25 (by decide) ?_
        refine z_iinc C d_X_unmakeFrom_43 rfl (by decide) ?_
        refine z_goto C 11 d_X_unmakeFrom_46 (by decide) ?_
        have j := ih (q + 1) σ1 (by omega) hx2 hF1 (some .null)
        rw [show ((q + 1 : Nat) : Int) = (q : Int) + 1 from by omega] at j
        exact j
      · rw [show va_rf (some a) = Value.ref a from rfl]
        obtain ⟨kd, nd, con, sc, hOa, ha⟩ : ∃ (kd nd : Nat) (con sc : Int), O a ∧ σ1 a = some (ob 0 [.ref kd, iv ((q / 12 : Nat) : Int), iv ((q % 12 : Nat) : Int), iv con, iv sc, .ref nd, iv (kr kp f q q), iv (wk q)]) := by
          rcases hx1.2.2.2.2.2.2.2.2.2.1 q (by omega) with z | ⟨b, kd, con, sc, sz, kf, zf, z1, z2, z3⟩
          · rw [hq] at z; cases z.1
          · rw [hq] at z1
            cases z1
            obtain ⟨y1, nd, ka, la, y2, -⟩ := z2
            exact ⟨kd, nd, con, sc, y1, y2⟩
        have hkq := hx1.2.2.2.2.2.2.2.2.2.2.2.2.2.1 q
        refine z_astore C d_X_unmakeFrom_21 (by decide) ?_
        refine z_aload C d_X_unmakeFrom_23 rfl ?_
        refine z_ifnull C d_X_unmakeFrom_25 ?_
        refine z_aload C d_X_unmakeFrom_28 rfl ?_
        refine z_getN C in_B (ha) rfl 6 (by decide) nl_91 rfl rfl d_X_unmakeFrom_30 ?_
        refine z_iload_n C d_X_unmakeFrom_33 rfl ?_
        refine z_icmp_lt C 43 (by omega) (by omega) d_X_unmakeFrom_34 (by decide) (fun h34 => ?_) (fun h34 => ?_)
        · refine z_iinc C d_X_unmakeFrom_43 rfl (by decide) ?_
          refine z_goto C 11 d_X_unmakeFrom_46 (by decide) ?_
          rw [← kr_keep h34] at hx1
          have j := ih (q + 1) σ1 (by omega) hx1 hF1 (some (.ref a))
          rw [show ((q + 1 : Nat) : Int) = (q : Int) + 1 from by omega] at j
          exact j
        · refine z_aload C d_X_unmakeFrom_37 rfl ?_
          refine z_iconst C d_X_unmakeFrom_39 ?_
          refine x_kept C hx1 (by omega) hq ha (by omega) rfl hOa d_X_unmakeFrom_40 (fun σ2 hx2 hF2 => ?_)
          rw [kr_drop h34] at hx2
          refine z_iinc C d_X_unmakeFrom_43 rfl (by decide) ?_
          refine z_goto C 11 d_X_unmakeFrom_46 (by decide) ?_
          have j := ih (q + 1) σ2 (by omega) hx2 (hF1.tr hF2) (some (.ref a))
          rw [show ((q + 1 : Nat) : Int) = (q : Int) + 1 from by omega] at j
          exact j
  refine z_aload_n C d_X_unmakeFrom_0 rfl ?_
  refine z_get C in_X (hX) rfl 1 (by decide) tw_fl_X_19 rfl rfl d_X_unmakeFrom_1 ?_
  refine z_astore_n C d_X_unmakeFrom_4 (by decide) ?_
  refine z_aload_n C d_X_unmakeFrom_5 rfl ?_
  refine z_alen C 3 rfl h2 36 rfl d_X_unmakeFrom_6 ?_
  refine z_istore_n C d_X_unmakeFrom_7 (by decide) ?_
  refine z_iconst C d_X_unmakeFrom_8 ?_
  refine z_istore C d_X_unmakeFrom_9 (by decide) ?_
  exact loop 36 0 σ (by omega) (by rw [kr_0]; exact hx) xF.rf none
end XC6
theorem xG.back {cI cZ cJ cB : ClassId} {X : Nat → Nat} {O : Nat → Prop} {bnd mkr : Nat → Option Nat} {g : Nat → Nat → Int} {σ : zh} {s : St} {wk : Nat → Int} (hI : Inv s) {d : Nat} {W : Nat → Bool} {i k : Nat} (hi : i < 3) (hk : k < 12) (hx : xG cI cZ cJ cB X O bnd mkr g (sup (rget d W s i k).2 23 0 (s 23 0)) (kr (fun q => kpt (rget d W s i k).2 q - 1) (s 23 0) 36) wk σ) : xG cI cZ cJ cB X O bnd mkr g s (fun q => kpt s q - 1) wk σ := by
  obtain ⟨o1, ⟨g1, g2, g3, g4, g5, g6, g7⟩, o3, o4⟩ := rget_ok d W s i k hI hi hk
  have kk := fun p => rget_kk (p := p) d W s i k hI hi hk
  generalize rget d W s i k = r at hx o1 g1 g2 g3 g4 g5 g6 g7 kk
  have hx2 := hx.kpc (kp' := (fun q => kpt s q - 1)) (fun q hq _ => by
    have a1 := hI.kp q
    have a2 := o1.kp q
    show kpt s q - 1 = (if q < 36 ∧ s 23 0 ≤ kpt r.2 q - 1 then -1 else kpt r.2 q - 1)
    by_cases c : kpt s q = 0
    · have h1 := g3 q
      have h2 := g4 q
      have b1 := hI.si q
      have b2 := hI.re q
      have b3 := o1.si q
      have b4 := o1.re q
      have cz : s 11 q + s 12 q = 0 := c
      have ce : kpt r.2 q = r.2 11 q + r.2 12 q := rfl
      by_cases c2 : q < 36 ∧ s 23 0 ≤ kpt r.2 q - 1
      · rw [if_pos c2]; omega
      · rw [if_neg c2]; omega
    · have e := (kk q c).kpt
      rw [if_neg (by omega)]
      omega) (fun p => by have := hI.kp p; have := hI.md; show -1 ≤ kpt s p - 1 ∧ kpt s p - 1 ≤ 200; omega)
  refine hx2.sq2 (fun f hf => ?_) (fun i' hi' => ?_) (fun j hj => ?_)
  · by_cases c : f = 23
    · subst c
      funext j
      show s 23 j = iup (r.2 23) 0 (s 23 0) j
      by_cases c2 : j = 0
      · subst c2; rw [iup_s]
      · rw [iup_n c2]; exact (g7 j c2).symm
    · rw [sup_n c]
      exact (g1 f (by
        simp only [dyn, Bool.or_eq_false_iff, beq_eq_false_iff_ne, Bool.and_eq_false_iff, decide_eq_false_iff_not]
        omega)).symm
  · have e : sup r.2 23 0 (s 23 0) 23 0 = s 23 0 := iup_s (r.2 23) 0 _
    have := g5 i' (by omega)
    exact ⟨this.1.symm, this.2.1.symm, this.2.2.1.symm, this.2.2.2.symm⟩
  · have e : sup r.2 23 0 (s 23 0) 23 0 = s 23 0 := iup_s (r.2 23) 0 _
    have := g6 j (by omega)
    exact ⟨this.1.symm, this.2.1.symm, this.2.2.symm⟩
section XC7
variable {l : Launch} {D : va_G} {A : Nat → Prop} {cI cZ cJ cB : ClassId} {X : Nat → Nat} {O : Nat → Prop} {bnd mkr : Nat → Option Nat} {g : Nat → Nat → Int} {σ : zh} {s : St} {kp wk : Nat → Int}
set_option maxRecDepth 100000 in
set_option maxHeartbeats 4000000 in
theorem cX_obtainFromOutside (i k : Nat) (hI : Inv s) (hx : xG cI cZ cJ cB X O bnd mkr g s (fun q => kpt s q - 1) (fun _ => 0) σ) (hi : i < 3) (hk : k < 12) : zM l D vwCl A (ztys cI cZ cJ cB) (zF A X) y_X_obtainFromOutside ws_X_obtainFromOutside (zroom 77 0 0) [.ref (X 0), iv (i : Int), iv (k : Int)] σ (fun r σ' => r = some (jv (sget s i k).1) ∧ ∃ (mkr' : Nat → Option Nat) (g' : Nat → Nat → Int), xG cI cZ cJ cB X O bnd mkr' g' (sget s i k).2 (fun q => kpt (sget s i k).2 q - 1) (fun _ => 0) σ' ∧ xF O σ σ') := by
  refine zMet2 (zF_ok A X) (by decide) (Nat.le_of_ble_eq_true rfl) (fun K hKl C => ?_)
  obtain ⟨hO, hX, h1, h2, h3, h4, h5, hB, hBf, hbn, hmk, hvl, hwk, hkp, hk1, hk2, hk3⟩ := id hx
  have hmd := hI.md
  refine z_aload_n C d_X_obtainFromOutside_0 rfl ?_
  refine z_get C in_X (hX) rfl 7 (by decide) tw_fl_X_143 rfl rfl d_X_obtainFromOutside_1 ?_
  refine z_istore_n C d_X_obtainFromOutside_4 (by decide) ?_
  refine z_aload_n C d_X_obtainFromOutside_5 rfl ?_
  refine z_iload_n C d_X_obtainFromOutside_6 rfl ?_
  refine z_iload_n C d_X_obtainFromOutside_7 rfl ?_
  refine z_iconst C d_X_obtainFromOutside_8 ?_
  refine z_callV C hKl (cX_obtain 37 (by omega) (by omega) s (fun _ => false) bnd mkr g σ i k hI hx hi hk) (zgood (fun _ h => h) tw_co_X_obtain) rfl (hX) rfl tw_ml_X_150 tw_im_X_obtain tw_se_X_obtain tw_in_X pd_X_obtain (by decide) rfl (Nat.le_of_ble_eq_true rfl) (by decide) d_X_obtainFromOutside_9 (fun r σ1 hq => ?_)
  obtain ⟨rfl, mkr1, g1, -, hx1, hF1⟩ := hq
  have hx1 : xG cI cZ cJ cB X O bnd mkr1 g1 (rget 37 (fun _ => false) s i k).2 (fun q => kpt (rget 37 (fun _ => false) s i k).2 q - 1) (fun _ => 0) σ1 := hx1
  obtain ⟨o1, o2, o3, o4⟩ := rget_ok 37 (fun _ => false) s i k hI hi hk
  refine z_lstore C d_X_obtainFromOutside_12 (by decide) ?_
  refine z_lload C d_X_obtainFromOutside_14 rfl ?_
  refine z_callS C hKl (cX_isError (rget 37 (fun _ => false) s i k).1 (by omega)) (zgood (fun _ h => h) tw_co_X_isError) rfl tw_ml_X_154 tw_st_X_isError tw_in_X pd_X_isError (by decide) rfl (Nat.le_of_ble_eq_true rfl) (by decide) d_X_obtainFromOutside_16 (fun r σ hq => ?_)
  obtain ⟨rfl, b, rfl, hb⟩ := hq
  refine z_if_eq C 27 (by omega) d_X_obtainFromOutside_19 (by decide) (fun h19 => ?_) (fun h19 => ?_)
  · refine z_lload C d_X_obtainFromOutside_27 rfl ?_
    exact z_lret C d_X_obtainFromOutside_29 (by decide) (by decide) (by rw [show sget s i k = rget 37 (fun _ => false) s i k from if_neg (by omega)]; exact ⟨rfl, mkr1, g1, hx1, hF1⟩)
  · refine z_aload_n C d_X_obtainFromOutside_22 rfl ?_
    refine z_iload_n C d_X_obtainFromOutside_23 rfl ?_
    refine z_callV C hKl (cX_unmakeFrom (s 23 0) o1 hx1 ⟨hmd.1, o2.2.1⟩) (zgood (fun _ h => h) tw_co_X_unmakeFrom) rfl (hx1.2.1) rfl tw_ml_X_158 tw_im_X_unmakeFrom tw_se_X_unmakeFrom tw_in_X pd_X_unmakeFrom (by decide) rfl (Nat.le_of_ble_eq_true rfl) (by decide) d_X_obtainFromOutside_24 (fun r σ2 hq => ?_)
    obtain ⟨rfl, hx2, hF2⟩ := hq
    have hx2 := hx2.back hI hi hk
    refine z_lload C d_X_obtainFromOutside_27 rfl ?_
    exact z_lret C d_X_obtainFromOutside_29 (by decide) (by decide) (by rw [show sget s i k = ((rget 37 (fun _ => false) s i k).1, s) from if_pos (by omega)]; exact ⟨rfl, mkr1, g1, hx2, hF1.tr hF2⟩)
set_option maxRecDepth 100000 in
set_option maxHeartbeats 4000000 in
theorem cX_wouldFail (i k : Nat) (hI : Inv s) (hx : xG cI cZ cJ cB X O bnd mkr g s (fun q => kpt s q - 1) (fun _ => 0) σ) (hi : i < 3) (hk : k < 12) : zM l D vwCl A (ztys cI cZ cJ cB) (zF A X) y_X_wouldFail ws_X_wouldFail (zroom 77 0 0) [.ref (X 0), iv (i : Int), iv (k : Int)] σ (fun r σ' => ∃ b : Int, r = some (iv b) ∧ ((b = 1 ∧ (rget 37 (fun _ => false) s i k).1 < 0) ∨ (b = 0 ∧ 0 ≤ (rget 37 (fun _ => false) s i k).1)) ∧ ∃ (mkr' : Nat → Option Nat) (g' : Nat → Nat → Int), xG cI cZ cJ cB X O bnd mkr' g' s (fun q => kpt s q - 1) (fun _ => 0) σ' ∧ xF O σ σ') := by
  refine zMet2 (zF_ok A X) (by decide) (Nat.le_of_ble_eq_true rfl) (fun K hKl C => ?_)
  obtain ⟨hO, hX, h1, h2, h3, h4, h5, hB, hBf, hbn, hmk, hvl, hwk, hkp, hk1, hk2, hk3⟩ := id hx
  have hmd := hI.md
  refine z_aload_n C d_X_wouldFail_0 rfl ?_
  refine z_get C in_X (hX) rfl 7 (by decide) tw_fl_X_143 rfl rfl d_X_wouldFail_1 ?_
  refine z_istore_n C d_X_wouldFail_4 (by decide) ?_
  refine z_aload_n C d_X_wouldFail_5 rfl ?_
  refine z_iload_n C d_X_wouldFail_6 rfl ?_
  refine z_iload_n C d_X_wouldFail_7 rfl ?_
  refine z_iconst C d_X_wouldFail_8 ?_
  refine z_callV C hKl (cX_obtain 37 (by omega) (by omega) s (fun _ => false) bnd mkr g σ i k hI hx hi hk) (zgood (fun _ h => h) tw_co_X_obtain) rfl (hX) rfl tw_ml_X_150 tw_im_X_obtain tw_se_X_obtain tw_in_X pd_X_obtain (by decide) rfl (Nat.le_of_ble_eq_true rfl) (by decide) d_X_wouldFail_9 (fun r σ1 hq => ?_)
  obtain ⟨rfl, mkr1, g1, -, hx1, hF1⟩ := hq
  have hx1 : xG cI cZ cJ cB X O bnd mkr1 g1 (rget 37 (fun _ => false) s i k).2 (fun q => kpt (rget 37 (fun _ => false) s i k).2 q - 1) (fun _ => 0) σ1 := hx1
  obtain ⟨o1, o2, o3, o4⟩ := rget_ok 37 (fun _ => false) s i k hI hi hk
  refine z_lstore C d_X_wouldFail_12 (by decide) ?_
  refine z_aload_n C d_X_wouldFail_14 rfl ?_
  refine z_iload_n C d_X_wouldFail_15 rfl ?_
  refine z_callV C hKl (cX_unmakeFrom (s 23 0) o1 hx1 ⟨hmd.1, o2.2.1⟩) (zgood (fun _ h => h) tw_co_X_unmakeFrom) rfl (hx1.2.1) rfl tw_ml_X_158 tw_im_X_unmakeFrom tw_se_X_unmakeFrom tw_in_X pd_X_unmakeFrom (by decide) rfl (Nat.le_of_ble_eq_true rfl) (by decide) d_X_wouldFail_16 (fun r σ2 hq => ?_)
  obtain ⟨rfl, hx2, hF2⟩ := hq
  have hx2 := hx2.back hI hi hk
  refine z_lload C d_X_wouldFail_19 rfl ?_
  refine z_callS C hKl (cX_isError (rget 37 (fun _ => false) s i k).1 (by omega)) (zgood (fun _ h => h) tw_co_X_isError) rfl tw_ml_X_154 tw_st_X_isError tw_in_X pd_X_isError (by decide) rfl (Nat.le_of_ble_eq_true rfl) (by decide) d_X_wouldFail_21 (fun r σ hq => ?_)
  obtain ⟨rfl, b, rfl, hb⟩ := hq
  exact z_zret C d_X_wouldFail_24 (by decide) (by decide) (by omega) (⟨b, rfl, hb, mkr1, g1, hx2, hF1.tr hF2⟩)
set_option maxRecDepth 100000 in
set_option maxHeartbeats 4000000 in
theorem cX_get (i k : Int) (hI : Inv s) (hx : xG cI cZ cJ cB X O bnd mkr g s (fun q => kpt s q - 1) (fun _ => 0) σ) (ri : -2147483648 ≤ i ∧ i ≤ 2147483647) (rk : -2147483648 ≤ k ∧ k ≤ 2147483647) : zM l D vwCl A (ztys cI cZ cJ cB) (zF A X) y_X_get ws_X_get (zroom 78 0 0) [.ref (X 0), iv i, iv k] σ (fun r σ' => r = some (jv (sp_get s i k).1) ∧ ∃ (mkr' : Nat → Option Nat) (g' : Nat → Nat → Int), xG cI cZ cJ cB X O bnd mkr' g' (sp_get s i k).2 (fun q => kpt (sp_get s i k).2 q - 1) (fun _ => 0) σ' ∧ xF O σ σ') := by
  refine zMet2 (zF_ok A X) (by decide) (Nat.le_of_ble_eq_true rfl) (fun K hKl C => ?_)
  obtain ⟨hO, hX, h1, h2, h3, h4, h5, hB, hBf, hbn, hmk, hvl, hwk, hkp, hk1, hk2, hk3⟩ := id hx
  have hinj := hI.inj
  refine z_aload_n C d_X_get_0 rfl ?_
  refine z_iload_n C d_X_get_1 rfl ?_
  refine z_iload_n C d_X_get_2 rfl ?_
  refine z_callV C hKl (cX_isPair i k hI hx ri rk) (zgood (fun _ h => h) tw_co_X_isPair) rfl (hX) rfl tw_ml_X_77 tw_im_X_isPair tw_se_X_isPair tw_in_X pd_X_isPair (by decide) rfl (Nat.le_of_ble_eq_true rfl) (by decide) d_X_get_3 (fun r σ hp => ?_)
  obtain ⟨rfl, b, rfl, hb⟩ := hp
  refine z_if_ne C 13 (by omega) d_X_get_6 (by decide) (fun h6 => ?_) (fun h6 => ?_)
  · obtain ⟨x, rfl⟩ := Int.eq_ofNat_of_zero_le (show 0 ≤ i by omega)
    obtain ⟨y, rfl⟩ := Int.eq_ofNat_of_zero_le (show 0 ≤ k by omega)
    rw [show sp_get s x y = sget s x y from if_neg (by omega)]
    refine z_aload_n C d_X_get_13 rfl ?_
    refine z_iload_n C d_X_get_14 rfl ?_
    refine z_iload_n C d_X_get_15 rfl ?_
    refine z_callV C hKl (cX_obtainFromOutside x y hI hx (by omega) (by omega)) (zgood (fun _ h => h) tw_co_X_obtainFromOutside) rfl (hX) rfl tw_ml_X_96 tw_im_X_obtainFromOutside tw_se_X_obtainFromOutside tw_in_X pd_X_obtainFromOutside (by decide) rfl (Nat.le_of_ble_eq_true rfl) (by decide) d_X_get_16 (fun r σ1 hq => ?_)
    obtain ⟨rfl, hq⟩ := hq
    exact z_lret C d_X_get_19 (by decide) (by decide) (⟨rfl, hq⟩)
  · refine z_ldc2 C (-1) tw_kl_X_94 d_X_get_9 ?_
    exact z_lret C d_X_get_12 (by decide) (by decide) (by rw [show sp_get s i k = (-1, s) from if_pos (by omega)]; exact ⟨rfl, mkr, g, hx, xF.rf⟩)
set_option maxRecDepth 100000 in
set_option maxHeartbeats 4000000 in
theorem cX_ask (i n : Int) (hI : Inv s) (hx : xG cI cZ cJ cB X O bnd mkr g s (fun q => kpt s q - 1) (fun _ => 0) σ) (ri : -2147483648 ≤ i ∧ i ≤ 2147483647) (rn : -2147483648 ≤ n ∧ n ≤ 2147483647) : zM l D vwCl A (ztys cI cZ cJ cB) (zF A X) y_X_ask ws_X_ask (zroom 78 0 0) [.ref (X 0), iv i, iv n] σ (fun r σ' => r = some (jv (sp_ask s i n).1) ∧ ∃ (mkr' : Nat → Option Nat) (g' : Nat → Nat → Int), xG cI cZ cJ cB X O bnd mkr' g' (sp_ask s i n).2 (fun q => kpt (sp_ask s i n).2 q - 1) (fun _ => 0) σ' ∧ xF O σ σ') := by
  refine zMet2 (zF_ok A X) (by decide) (Nat.le_of_ble_eq_true rfl) (fun K hKl C => ?_)
  obtain ⟨hO, hX, h1, h2, h3, h4, h5, hB, hBf, hbn, hmk, hvl, hwk, hkp, hk1, hk2, hk3⟩ := id hx
  have hmd := hI.md
  refine z_aload_n C d_X_ask_0 rfl ?_
  refine z_iload_n C d_X_ask_1 rfl ?_
  refine z_callV C hKl (cX_makerOf i hI hx ri) (zgood (fun _ h => h) tw_co_X_makerOf) rfl (hX) rfl tw_ml_X_100 tw_im_X_makerOf tw_se_X_makerOf tw_in_X pd_X_makerOf (by decide) rfl (Nat.le_of_ble_eq_true rfl) (by decide) d_X_ask_2 (fun r σ hp => ?_)
  obtain ⟨rfl, rfl⟩ := hp
  by_cases hbad : i < 0 ∨ s 23 0 ≤ i
  · rw [if_pos hbad, show va_rf none = Value.null from rfl]
    refine z_astore_nN C d_X_ask_5 (by decide) ?_
    refine z_aload_nN C d_X_ask_6 rfl ?_
    refine z_ifnullN C 18 d_X_ask_7 (by decide) ?_
    refine z_ldc2 C (-1) tw_kl_X_94 d_X_ask_18 ?_
    exact z_lret C d_X_ask_21 (by decide) (by decide) (by rw [show sp_ask s i n = (-1, s) from if_pos (by omega)]; exact ⟨rfl, mkr, g, hx, xF.rf⟩)
  · obtain ⟨x, rfl⟩ := Int.eq_ofNat_of_zero_le (show 0 ≤ i by omega)
    obtain ⟨a, kd, con, kept, iw, kf, zf, m1, ⟨m2, nd, ka, la, m3, m4, m5⟩, m6⟩ := hmk x (by omega)
    obtain ⟨-, n1, n2, n3, n4, n5, n6⟩ := m4
    rw [if_neg hbad, Int.toNat_natCast, m1, show va_rf (some a) = Value.ref a from rfl]
    have hin := hI.inn x
    refine z_astore_n C d_X_ask_5 (by decide) ?_
    refine z_aload_n C d_X_ask_6 rfl ?_
    refine z_ifnull C d_X_ask_7 ?_
    refine z_aload_n C d_X_ask_10 rfl ?_
    refine z_iload_n C d_X_ask_11 rfl ?_
    refine z_callS C hKl (cX_hasNeed n m3 n1 n4 rn) (zgood (fun _ h => h) tw_co_X_hasNeed) rfl tw_ml_X_104 tw_st_X_hasNeed tw_in_X pd_X_hasNeed (by decide) rfl (Nat.le_of_ble_eq_true rfl) (by decide) d_X_ask_12 (fun r σ hp => ?_)
    obtain ⟨rfl, b, rfl, hb⟩ := hp
    refine z_if_ne C 22 (by omega) d_X_ask_15 (by decide) (fun h15 => ?_) (fun h15 => ?_)
    · have hkz := m6 n.toNat (by omega)
      have hk5 := n5 n.toNat
      have hz6 := n6 n.toNat
      have hij := hI.ij x
      have ea : sp_ask s x n = if s 21 (4 * x + n.toNat) = 1 then sget s (s 17 x).toNat (s 20 (4 * x + n.toNat)).toNat else (s 22 (4 * x + n.toNat), s) := by
        unfold sp_ask
        rw [Int.toNat_natCast, if_neg (by omega)]
      refine z_aload_n C d_X_ask_22 rfl ?_
      refine z_getN C in_B (m3) rfl 5 (by decide) nl_108 rfl rfl d_X_ask_23 ?_
      refine z_getN C in_N (n1) rfl 1 (by decide) nl_111 rfl rfl d_X_ask_26 ?_
      refine z_iload_n C d_X_ask_29 rfl ?_
      refine z_zald C 1 rfl n3 n.toNat (by omega) (by omega) (by decide) d_X_ask_30 ?_
      refine z_if_eq C 52 (by omega) d_X_ask_31 (by decide) (fun h31 => ?_) (fun h31 => ?_)
      · refine z_aload_n C d_X_ask_52 rfl ?_
        refine z_get C in_X (hX) rfl 3 (by decide) tw_fl_X_26 rfl rfl d_X_ask_53 ?_
        refine z_iload_n C d_X_ask_56 rfl ?_
        refine z_iconst C d_X_ask_57 ?_
        refine z_imul C d_X_ask_58 ?_
        refine z_iload_n C d_X_ask_59 rfl ?_
        refine z_iadd C d_X_ask_60 ?_
        refine z_lald C 2 rfl h4 (4 * x + n.toNat) (by omega) (by omega) (by decide) d_X_ask_61 ?_
        exact z_lret C d_X_ask_62 (by decide) (by decide) (by rw [ea, if_neg (by omega), hvl x n.toNat (by omega) (by omega)]; exact ⟨rfl, mkr, g, hx, xF.rf⟩)
      · refine z_aload_n C d_X_ask_34 rfl ?_
        refine z_aload_n C d_X_ask_35 rfl ?_
        refine z_getN C in_B (m3) rfl 1 (by decide) nl_115 rfl rfl d_X_ask_36 ?_
        refine z_top (w := iv (((s 17 x).toNat : Nat) : Int)) (by rw [show s 17 x = (((s 17 x).toNat : Nat) : Int) from by omega, Int.toNat_natCast]) ?_
        refine z_aload_n C d_X_ask_39 rfl ?_
        refine z_getN C in_B (m3) rfl 5 (by decide) nl_108 rfl rfl d_X_ask_40 ?_
        refine z_getN C in_N (n1) rfl 0 (by decide) nl_118 rfl rfl d_X_ask_43 ?_
        refine z_iload_n C d_X_ask_46 rfl ?_
        refine z_iald C 0 rfl n2 n.toNat (by omega) (by omega) (by decide) d_X_ask_47 ?_
        refine z_top (w := iv (((s 20 (4 * x + n.toNat)).toNat : Nat) : Int)) (by rw [hkz.1, show s 20 (4 * x + n.toNat) = (((s 20 (4 * x + n.toNat)).toNat : Nat) : Int) from by omega, Int.toNat_natCast]) ?_
        refine z_callV C hKl (cX_obtainFromOutside (s 17 x).toNat (s 20 (4 * x + n.toNat)).toNat hI hx (by omega) (by omega)) (zgood (fun _ h => h) tw_co_X_obtainFromOutside) rfl (hX) rfl tw_ml_X_96 tw_im_X_obtainFromOutside tw_se_X_obtainFromOutside tw_in_X pd_X_obtainFromOutside (by decide) rfl (Nat.le_of_ble_eq_true rfl) (by decide) d_X_ask_48 (fun r σ1 hq => ?_)
        obtain ⟨rfl, hq⟩ := hq
        exact z_lret C d_X_ask_51 (by decide) (by decide) (by rw [ea, if_pos (by omega)]; exact ⟨rfl, hq⟩)
    · refine z_ldc2 C (-1) tw_kl_X_94 d_X_ask_18 ?_
      exact z_lret C d_X_ask_21 (by decide) (by decide) (by rw [show sp_ask s x n = (-1, s) from if_pos (by rw [Int.toNat_natCast]; omega)]; exact ⟨rfl, mkr, g, hx, xF.rf⟩)
set_option maxRecDepth 100000 in
set_option maxHeartbeats 4000000 in
theorem cX_broken (i : Int) (hI : Inv s) (hx : xG cI cZ cJ cB X O bnd mkr g s (fun q => kpt s q - 1) (fun _ => 0) σ) (ri : -2147483648 ≤ i ∧ i ≤ 2147483647) : zM l D vwCl A (ztys cI cZ cJ cB) (zF A X) y_X_broken ws_X_broken (zroom 78 0 0) [.ref (X 0), iv i] σ (fun r σ' => r = some (iv (sp_broken s i)) ∧ ∃ (mkr' : Nat → Option Nat) (g' : Nat → Nat → Int), xG cI cZ cJ cB X O bnd mkr' g' s (fun q => kpt s q - 1) (fun _ => 0) σ' ∧ xF O σ σ') := by
  refine zMet2 (zF_ok A X) (by decide) (Nat.le_of_ble_eq_true rfl) (fun K hKl C => ?_)
  obtain ⟨hO, hX, h1, h2, h3, h4, h5, hB, hBf, hbn, hmk, hvl, hwk, hkp, hk1, hk2, hk3⟩ := id hx
  have hinj := hI.inj
  have loop : ∀ x : Nat, x < 3 → ∀ (n k : Nat) (mkr1 : Nat → Option Nat) (g1 : Nat → Nat → Int) (σ1 : zh), k + n = 12 → xG cI cZ cJ cB X O bnd mkr1 g1 s (fun q => kpt s q - 1) (fun _ => 0) σ1 → xF O σ σ1 → zJ K D vwCl A 3 (zQ K D vwCl A (fun r σ' => r = some (iv (brk s x n k)) ∧ ∃ (mkr' : Nat → Option Nat) (g' : Nat → Nat → Int), xG cI cZ cJ cB X O bnd mkr' g' s (fun q => kpt s q - 1) (fun _ => 0) σ' ∧ xF O σ σ') 0 0) 0 0 σ1 12 [some (.ref (X 0)), some (iv (x : Int)), some (iv (k : Int))] [] := by
    intro x hx3 n
    induction n with
    | zero =>
      intro k mkr1 g1 σ1 hk hx1 hF1
      refine z_iload_n C d_X_broken_12 rfl ?_
      refine z_bipush C d_X_broken_13 (by decide) ?_
      refine z_icmp_ge C 44 (by omega) (by omega) d_X_broken_15 (by decide) (fun h15 => ?_) (fun h15 => absurd h15 (by omega))
      refine z_bipush C d_X_broken_44 (by decide) ?_
      exact z_iret C d_X_broken_46 (by decide) (by decide) (⟨rfl, mkr1, g1, hx1, hF1⟩)
    | succ n ih =>
      intro k mkr1 g1 σ1 hk hx1 hF1
      have eb : brk s x (n + 1) k = if 0 ≤ sn s x k ∧ (rget 37 (fun _ => false) s x k).1 < 0 then (k : Int) else brk s x n (k + 1) := rfl
      have next : ∀ (mkr2 : Nat → Option Nat) (g2 : Nat → Nat → Int) (σ2 : zh), ¬ (0 ≤ sn s x k ∧ (rget 37 (fun _ => false) s x k).1 < 0) → xG cI cZ cJ cB X O bnd mkr2 g2 s (fun q => kpt s q - 1) (fun _ => 0) σ2 → xF O σ σ2 → zJ K D vwCl A 3 (zQ K D vwCl A (fun r σ' => r = some (iv (brk s x (n + 1) k)) ∧ ∃ (mkr' : Nat → Option Nat) (g' : Nat → Nat → Int), xG cI cZ cJ cB X O bnd mkr' g' s (fun q => kpt s q - 1) (fun _ => 0) σ' ∧ xF O σ σ') 0 0) 0 0 σ2 38 [some (.ref (X 0)), some (iv (x : Int)), some (iv (k : Int))] [] := by
        intro mkr2 g2 σ2 hno hx2 hF2
        rw [eb, if_neg hno]
        refine z_iinc C d_X_broken_38 rfl (by decide) ?_
        refine z_goto C 12 d_X_broken_41 (by decide) ?_
        have j := ih (k + 1) mkr2 g2 σ2 (by omega) hx2 hF2
        rw [show ((k + 1 : Nat) : Int) = (k : Int) + 1 from by omega] at j
        exact j
      refine z_iload_n C d_X_broken_12 rfl ?_
      refine z_bipush C d_X_broken_13 (by decide) ?_
      refine z_icmp_ge C 44 (by omega) (by omega) d_X_broken_15 (by decide) (fun h15 => absurd h15 (by omega)) (fun h15 => ?_)
      refine z_aload_n C d_X_broken_18 rfl ?_
      refine z_iload_n C d_X_broken_19 rfl ?_
      refine z_iload_n C d_X_broken_20 rfl ?_
      refine z_callV C hKl (cX_seenFrom x k hI hx1 (by omega) (by omega)) (zgood (fun _ h => h) tw_co_X_seenFrom) rfl (hx1.2.1) rfl tw_ml_X_124 tw_im_X_seenFrom tw_se_X_seenFrom tw_in_X pd_X_seenFrom (by decide) rfl (Nat.le_of_ble_eq_true rfl) (by decide) d_X_broken_21 (fun r σ2 hp => ?_)
      obtain ⟨rfl, rfl⟩ := hp
      by_cases hsn : sn s x k < 0
      · rw [if_pos hsn, show va_rf none = Value.null from rfl]
        refine z_ifnullN C 38 d_X_broken_24 (by decide) ?_
        exact next mkr1 g1 _ (by omega) hx1 hF1
      · obtain ⟨p, a, kd, nd, ka, la, con, sc, sz, kf, zf, hp36, -, ep, hbp, -⟩ := xsee hI hx1 (i := x) (k := k) (by omega) (by omega) hsn
        rw [if_neg hsn, ep, Int.toNat_natCast, hbp, show va_rf (some a) = Value.ref a from rfl]
        refine z_ifnull C d_X_broken_24 ?_
        refine z_aload_n C d_X_broken_27 rfl ?_
        refine z_iload_n C d_X_broken_28 rfl ?_
        refine z_iload_n C d_X_broken_29 rfl ?_
        refine z_callV C hKl (cX_wouldFail x k hI hx1 (by omega) (by omega)) (zgood (fun _ h => h) tw_co_X_wouldFail) rfl (hx1.2.1) rfl tw_ml_X_128 tw_im_X_wouldFail tw_se_X_wouldFail tw_in_X pd_X_wouldFail (by decide) rfl (Nat.le_of_ble_eq_true rfl) (by decide) d_X_broken_30 (fun r σ2 hq => ?_)
        obtain ⟨b, rfl, hb, mkr2, g2, hx2, hF2⟩ := hq
        refine z_if_eq C 38 (by omega) d_X_broken_33 (by decide) (fun h33 => ?_) (fun h33 => ?_)
        · exact next mkr2 g2 _ (by omega) hx2 (hF1.tr hF2)
        · refine z_iload_n C d_X_broken_36 rfl ?_
          exact z_iret C d_X_broken_37 (by decide) (by decide) (by rw [eb, if_pos (by omega)]; exact ⟨rfl, mkr2, g2, hx2, hF1.tr hF2⟩)
  refine z_aload_n C d_X_broken_0 rfl ?_
  refine z_iload_n C d_X_broken_1 rfl ?_
  refine z_callV C hKl (cX_isInjector i hI hx ri) (zgood (fun _ h => h) tw_co_X_isInjector) rfl (hX) rfl tw_ml_X_40 tw_im_X_isInjector tw_se_X_isInjector tw_in_X pd_X_isInjector (by decide) rfl (Nat.le_of_ble_eq_true rfl) (by decide) d_X_broken_2 (fun r σ hp => ?_)
  obtain ⟨rfl, b, rfl, hb⟩ := hp
  refine z_if_ne C 10 (by omega) d_X_broken_5 (by decide) (fun h5 => ?_) (fun h5 => ?_)
  · obtain ⟨x, rfl⟩ := Int.eq_ofNat_of_zero_le (show 0 ≤ i by omega)
    rw [show sp_broken s x = brk s x 12 0 from if_neg (by omega)]
    refine z_iconst C d_X_broken_10 ?_
    refine z_istore_n C d_X_broken_11 (by decide) ?_
    exact loop x (by omega) 12 0 mkr g _ (by omega) hx xF.rf
  · refine z_iconst C d_X_broken_8 ?_
    exact z_iret C d_X_broken_9 (by decide) (by decide) (by rw [show sp_broken s i = -1 from if_pos (by omega)]; exact ⟨rfl, mkr, g, hx, xF.rf⟩)
end XC7
