section XC2
variable {l : Launch} {D : va_G} {A : Nat → Prop} {cI cZ cJ cB : ClassId} {X : Nat → Nat} {O : Nat → Prop} {bnd mkr : Nat → Option Nat} {g : Nat → Nat → Int} {σ : zh} {s : St} {kp wk : Nat → Int}
theorem xsee (hI : Inv s) (hx : xG cI cZ cJ cB X O bnd mkr g s kp wk σ) {i k : Nat} (hi : i < 3) (hk : k < 12) (hs : ¬ sn s i k < 0) : ∃ (p a kd nd ka la : Nat) (con sc sz : Int) (kf zf : Nat → Int), p < 36 ∧ p % 12 = k ∧ sn s i k = (p : Int) ∧ bnd p = some a ∧ O a ∧ σ a = some (ob 0 [.ref kd, iv ((p / 12 : Nat) : Int), iv ((p % 12 : Nat) : Int), iv con, iv sc, .ref nd, iv (kp p), iv (wk p)]) ∧ NDk cI cZ O σ nd ka la sz kf zf ∧ NBd X nd ka la ∧ BK X s p kd con sc sz kf zf := by
  obtain ⟨p, hp, e, h0, hm⟩ := hI.seen hi hk hs
  rcases hx.2.2.2.2.2.2.2.2.2.1 p hp with z | ⟨a, kd, con, sc, sz, kf, zf, z1, ⟨z2, nd, ka, la, z3, z4, z5⟩, z6⟩
  · exact absurd z.2 h0
  · exact ⟨p, a, kd, nd, ka, la, con, sc, sz, kf, zf, hp, hm, e, z1, z2, z3, z4, z5, z6⟩
set_option maxRecDepth 100000 in
set_option maxHeartbeats 4000000 in
theorem cX_countBindings  (hx : xG cI cZ cJ cB X O bnd mkr g s kp wk σ)  : zM l D vwCl A (ztys cI cZ cJ cB) (zF A X) y_X_countBindings ws_X_countBindings (zroom 0 0 0) [.ref (X 0)] σ (fun r σ' => σ' = σ ∧ r = some (iv (cntz (s 5) 36))) := by
  refine zMet2 (zF_ok A X) (by decide) (Nat.le_of_ble_eq_true rfl) (fun K hKl C => ?_)
  obtain ⟨hO, hX, h1, h2, h3, h4, h5, hB, hBf, hbn, hmk, hvl, hwk, hkp, hk1, hk2, hk3⟩ := id hx
  have loop : ∀ (n q : Nat), q + n = 36 → ∀ a5 : Option Value, zJ K D vwCl A 6 (zQ K D vwCl A (fun r σ' => σ' = σ ∧ r = some (iv (cntz (s 5) 36))) 0 0) 0 0 σ 13 [some (.ref (X 0)), some (iv (cntz (s 5) q)), some (.ref (X 2)), some (iv 36), some (iv (q : Int)), a5] [] := by
    intro n
    induction n with
    | zero =>
      intro q hq a5
      have e : q = 36 := by omega
      subst e
      refine z_iload C d_X_countBindings_13 rfl ?_
      refine z_iload_n C d_X_countBindings_15 rfl ?_
      refine z_icmp_ge C 39 (by omega) (by omega) d_X_countBindings_16 (by decide) (fun h16 => ?_) (fun h16 => absurd h16 (by omega))
      refine z_iload_n C d_X_countBindings_39 rfl ?_
      exact z_iret C d_X_countBindings_40 (by decide) (by decide) (⟨rfl, rfl⟩)
    | succ n ih =>
      intro q hq a5
      have hc := cntz_r (s 5) q
      refine z_iload C d_X_countBindings_13 rfl ?_
      refine z_iload_n C d_X_countBindings_15 rfl ?_
      refine z_icmp_ge C 39 (by omega) (by omega) d_X_countBindings_16 (by decide) (fun h16 => absurd h16 (by omega)) (fun h16 => ?_)
      refine z_aload_n C d_X_countBindings_19 rfl ?_
      refine z_iload C d_X_countBindings_20 rfl ?_
      refine z_aald C 3 rfl h2 q rfl (by omega) (by decide) d_X_countBindings_22 ?_
      rcases hq : bnd q with _ | a
      · rw [show va_rf none = Value.null from rfl]
        have h0 : s 5 q = 0 := by
          rcases hbn q (by omega) with z | ⟨a, kd, con, sc, sz, kf, zf, z, -⟩
          · exact z.2
          · rw [hq] at z; cases z
        refine z_astoreN C d_X_countBindings_23 (by decide) ?_
        refine z_aloadN C d_X_countBindings_25 rfl ?_
        refine z_ifnullN C 33 d_X_countBindings_27 (by decide) ?_
        refine z_iinc C d_X_countBindings_33 rfl (by decide) ?_
        refine z_goto C 13 d_X_countBindings_36 (by decide) ?_
        have j := ih (q + 1) (by omega) (some .null)
        rw [show cntz (s 5) (q + 1) = cntz (s 5) q + (if s 5 q = 0 then 0 else 1) from rfl, if_pos h0, Int.add_zero, show ((q + 1 : Nat) : Int) = (q : Int) + 1 from by omega] at j
        exact j
      · rw [show va_rf (some a) = Value.ref a from rfl]
        have h0 : s 5 q ≠ 0 := by
          rcases hbn q (by omega) with z | ⟨a, kd, con, sc, sz, kf, zf, -, -, z⟩
          · rw [hq] at z; cases z.1
          · rcases z with z | z | z <;> (have := z.1; omega)
        refine z_astore C d_X_countBindings_23 (by decide) ?_
        refine z_aload C d_X_countBindings_25 rfl ?_
        refine z_ifnull C d_X_countBindings_27 ?_
        refine z_iinc C d_X_countBindings_30 rfl (by decide) ?_
        refine z_iinc C d_X_countBindings_33 rfl (by decide) ?_
        refine z_goto C 13 d_X_countBindings_36 (by decide) ?_
        have j := ih (q + 1) (by omega) (some (.ref a))
        rw [show cntz (s 5) (q + 1) = cntz (s 5) q + (if s 5 q = 0 then 0 else 1) from rfl, if_neg h0, show ((q + 1 : Nat) : Int) = (q : Int) + 1 from by omega] at j
        exact j
  refine z_iconst C d_X_countBindings_0 ?_
  refine z_istore_n C d_X_countBindings_1 (by decide) ?_
  refine z_aload_n C d_X_countBindings_2 rfl ?_
  refine z_get C in_X (hX) rfl 1 (by decide) tw_fl_X_19 rfl rfl d_X_countBindings_3 ?_
  refine z_astore_n C d_X_countBindings_6 (by decide) ?_
  refine z_aload_n C d_X_countBindings_7 rfl ?_
  refine z_alen C 3 rfl h2 36 rfl d_X_countBindings_8 ?_
  refine z_istore_n C d_X_countBindings_9 (by decide) ?_
  refine z_iconst C d_X_countBindings_10 ?_
  refine z_istore C d_X_countBindings_11 (by decide) ?_
  exact loop 36 0 (by omega) none
set_option maxRecDepth 100000 in
set_option maxHeartbeats 4000000 in
theorem cX_countKept (w : Int) (f : Nat) (hw : (w = 1 ∧ f = 11) ∨ (w = 2 ∧ f = 12)) (hI : Inv s) (hx : xG cI cZ cJ cB X O bnd mkr g s (fun p => kpt s p - 1) wk σ) : zM l D vwCl A (ztys cI cZ cJ cB) (zF A X) y_X_countKept ws_X_countKept (zroom 0 0 0) [.ref (X 0), iv w] σ (fun r σ' => σ' = σ ∧ r = some (iv (cntz (s f) 36))) := by
  refine zMet2 (zF_ok A X) (by decide) (Nat.le_of_ble_eq_true rfl) (fun K hKl C => ?_)
  obtain ⟨hO, hX, h1, h2, h3, h4, h5, hB, hBf, hbn, hmk, hvl, hwk, hkp, hk1, hk2, hk3⟩ := id hx
  have loop : ∀ (n q : Nat), q + n = 36 → ∀ a6 : Option Value, zJ K D vwCl A 7 (zQ K D vwCl A (fun r σ' => σ' = σ ∧ r = some (iv (cntz (s f) 36))) 0 0) 0 0 σ 14 [some (.ref (X 0)), some (iv w), some (iv (cntz (s f) q)), some (.ref (X 2)), some (iv 36), some (iv (q : Int)), a6] [] := by
    intro n
    induction n with
    | zero =>
      intro q hq a6
      have e : q = 36 := by omega
      subst e
      refine z_iload C d_X_countKept_14 rfl ?_
      refine z_iload C d_X_countKept_16 rfl ?_
      refine z_icmp_ge C 59 (by omega) (by omega) d_X_countKept_18 (by decide) (fun h18 => ?_) (fun h18 => absurd h18 (by omega))
      refine z_iload_n C d_X_countKept_59 rfl ?_
      exact z_iret C d_X_countKept_60 (by decide) (by decide) (⟨rfl, rfl⟩)
    | succ n ih =>
      intro q hq a6
      have hc := cntz_r (s f) q
      refine z_iload C d_X_countKept_14 rfl ?_
      refine z_iload C d_X_countKept_16 rfl ?_
      refine z_icmp_ge C 59 (by omega) (by omega) d_X_countKept_18 (by decide) (fun h18 => absurd h18 (by omega)) (fun h18 => ?_)
      refine z_aload_n C d_X_countKept_21 rfl ?_
      refine z_iload C d_X_countKept_22 rfl ?_
      refine z_aald C 3 rfl h2 q rfl (by omega) (by decide) d_X_countKept_24 ?_
      rcases hq : bnd q with _ | a
      · rw [show va_rf none = Value.null from rfl]
        have h0 : s f q = 0 := by
          rcases hbn q (by omega) with z | ⟨a, kd, con, sc, sz, kf, zf, z, -⟩
          · have h11 := hI.si2 (p := q)
            have h12 := hI.re2 (p := q)
            have z2 := z.2
            rcases hw with ⟨rfl, rfl⟩ | ⟨rfl, rfl⟩
            · apply Classical.byContradiction
              intro h; have := (h11 h).1; omega
            · apply Classical.byContradiction
              intro h; have := (h12 h).1; omega
          · rw [hq] at z; cases z
        refine z_astoreN C d_X_countKept_25 (by decide) ?_
        refine z_aloadN C d_X_countKept_27 rfl ?_
        refine z_ifnullN C 53 d_X_countKept_29 (by decide) ?_
        refine z_iinc C d_X_countKept_53 rfl (by decide) ?_
        refine z_goto C 14 d_X_countKept_56 (by decide) ?_
        have j := ih (q + 1) (by omega) (some .null)
        rw [show cntz (s f) (q + 1) = cntz (s f) q + (if s f q = 0 then 0 else 1) from rfl, if_pos h0, Int.add_zero, show ((q + 1 : Nat) : Int) = (q : Int) + 1 from by omega] at j
        exact j
      · rw [show va_rf (some a) = Value.ref a from rfl]
        rcases hbn q (by omega) with z | ⟨a', kd, con, sc, sz, kf, zf, z1, ⟨z2, nd, ka, la, z3, -⟩, z4⟩
        · rw [hq] at z; cases z.1
        rw [hq] at z1
        cases z1
        have hkq := hkp q
        have key : (0 ≤ sc ∧ sc ≤ 2) ∧ ((sc = w ∧ kpt s q - 1 ≠ -1) ↔ s f q ≠ 0) := by
          have g1 := hI.si q
          have g2 := hI.re q
          have g3 := hI.sc q
          have h11 : s 11 q ≠ 0 → s 5 q = 3 ∧ s 7 q = 1 := hI.si2 (p := q)
          have h12 : s 12 q ≠ 0 → s 5 q = 3 ∧ s 7 q = 2 := fun h => ⟨(hI.re2 h).1, (hI.re2 h).2.1⟩
          have z5 : sc = (if s 5 q = 3 then s 7 q else 0) := by
            rcases z4 with z | z | z
            · rw [if_neg (by have := z.1; omega)]; exact z.2.2.2.1
            · rw [if_neg (by have := z.1; omega)]; exact z.2.2.1
            · rw [if_pos z.1]; exact z.2.2.1
          unfold kpt
          rcases hw with ⟨rfl, rfl⟩ | ⟨rfl, rfl⟩
          · split at z5 <;> omega
          · split at z5 <;> omega
        refine z_astore C d_X_countKept_25 (by decide) ?_
        refine z_aload C d_X_countKept_27 rfl ?_
        refine z_ifnull C d_X_countKept_29 ?_
        refine z_aload C d_X_countKept_32 rfl ?_
        refine z_getN C in_B (z3) rfl 4 (by decide) nl_88 rfl rfl d_X_countKept_34 ?_
        refine z_iload_n C d_X_countKept_37 rfl ?_
        refine z_icmp_ne C 53 (by omega) (by omega) d_X_countKept_38 (by decide) (fun h38 => ?_) (fun h38 => ?_)
        · refine z_iinc C d_X_countKept_53 rfl (by decide) ?_
          refine z_goto C 14 d_X_countKept_56 (by decide) ?_
          have j := ih (q + 1) (by omega) (some (.ref a))
          rw [show cntz (s f) (q + 1) = cntz (s f) q + (if s f q = 0 then 0 else 1) from rfl, if_pos (by omega), Int.add_zero, show ((q + 1 : Nat) : Int) = (q : Int) + 1 from by omega] at j
          exact j
        · refine z_aload C d_X_countKept_41 rfl ?_
          refine z_getN C in_B (z3) rfl 6 (by decide) nl_91 rfl rfl d_X_countKept_43 ?_
          refine z_iconst C d_X_countKept_46 ?_
          refine z_icmp_eq C 53 (by omega) (by omega) d_X_countKept_47 (by decide) (fun h47 => ?_) (fun h47 => ?_)
          · refine z_iinc C d_X_countKept_53 rfl (by decide) ?_
            refine z_goto C 14 d_X_countKept_56 (by decide) ?_
            have h47 : kpt s q - 1 = -1 := h47
            have j := ih (q + 1) (by omega) (some (.ref a))
            rw [show cntz (s f) (q + 1) = cntz (s f) q + (if s f q = 0 then 0 else 1) from rfl, if_pos (by omega), Int.add_zero, show ((q + 1 : Nat) : Int) = (q : Int) + 1 from by omega] at j
            exact j
          · refine z_iinc C d_X_countKept_50 rfl (by decide) ?_
            refine z_iinc C d_X_countKept_53 rfl (by decide) ?_
            refine z_goto C 14 d_X_countKept_56 (by decide) ?_
            have h47 : kpt s q - 1 ≠ -1 := h47
            have j := ih (q + 1) (by omega) (some (.ref a))
            rw [show cntz (s f) (q + 1) = cntz (s f) q + (if s f q = 0 then 0 else 1) from rfl, if_neg (by omega), show ((q + 1 : Nat) : Int) = (q : Int) + 1 from by omega] at j
            exact j
  refine z_iconst C d_X_countKept_0 ?_
  refine z_istore_n C d_X_countKept_1 (by decide) ?_
  refine z_aload_n C d_X_countKept_2 rfl ?_
  refine z_get C in_X (hX) rfl 1 (by decide) tw_fl_X_19 rfl rfl d_X_countKept_3 ?_
  refine z_astore_n C d_X_countKept_6 (by decide) ?_
  refine z_aload_n C d_X_countKept_7 rfl ?_
  refine z_alen C 3 rfl h2 36 rfl d_X_countKept_8 ?_
  refine z_istore C d_X_countKept_9 (by decide) ?_
  refine z_iconst C d_X_countKept_11 ?_
  refine z_istore C d_X_countKept_12 (by decide) ?_
  exact loop 36 0 (by omega) none
set_option maxRecDepth 100000 in
set_option maxHeartbeats 4000000 in
theorem cX_home (i k : Int) (hI : Inv s) (hx : xG cI cZ cJ cB X O bnd mkr g s kp wk σ) (ri : -2147483648 ≤ i ∧ i ≤ 2147483647) (rk : -2147483648 ≤ k ∧ k ≤ 2147483647) : zM l D vwCl A (ztys cI cZ cJ cB) (zF A X) y_X_home ws_X_home (zroom 2 0 0) [.ref (X 0), iv i, iv k] σ (fun r σ' => σ' = σ ∧ r = some (iv (sp_home s i k))) := by
  refine zMet2 (zF_ok A X) (by decide) (Nat.le_of_ble_eq_true rfl) (fun K hKl C => ?_)
  obtain ⟨hO, hX, h1, h2, h3, h4, h5, hB, hBf, hbn, hmk, hvl, hwk, hkp, hk1, hk2, hk3⟩ := id hx
  have hinj := hI.inj
  refine z_aload_n C d_X_home_0 rfl ?_
  refine z_iload_n C d_X_home_1 rfl ?_
  refine z_iload_n C d_X_home_2 rfl ?_
  refine z_callV C hKl (cX_isPair i k hI hx ri rk) (zgood (fun _ h => h) tw_co_X_isPair) rfl (hX) rfl tw_ml_X_77 tw_im_X_isPair tw_se_X_isPair tw_in_X pd_X_isPair (by decide) rfl (Nat.le_of_ble_eq_true rfl) (by decide) d_X_home_3 (fun r σ hp => ?_)
  obtain ⟨rfl, b, rfl, hb⟩ := hp
  refine z_if_ne C 11 (by omega) d_X_home_6 (by decide) (fun h6 => ?_) (fun h6 => ?_)
  · obtain ⟨x, rfl⟩ := Int.eq_ofNat_of_zero_le (show 0 ≤ i by omega)
    obtain ⟨y, rfl⟩ := Int.eq_ofNat_of_zero_le (show 0 ≤ k by omega)
    have e1 : sp_home s x y = if sn s x y < 0 then 3 else sn s x y / 12 := if_neg (by omega)
    refine z_aload_n C d_X_home_11 rfl ?_
    refine z_iload_n C d_X_home_12 rfl ?_
    refine z_iload_n C d_X_home_13 rfl ?_
    refine z_callV C hKl (cX_seenFrom x y hI hx (by omega) (by omega)) (zgood (fun _ h => h) tw_co_X_seenFrom) rfl (hX) rfl tw_ml_X_124 tw_im_X_seenFrom tw_se_X_seenFrom tw_in_X pd_X_seenFrom (by decide) rfl (Nat.le_of_ble_eq_true rfl) (by decide) d_X_home_14 (fun r σ hp => ?_)
    obtain ⟨rfl, rfl⟩ := hp
    by_cases hsn : sn s x y < 0
    · rw [if_pos hsn]
      rw [show va_rf none = Value.null from rfl]
      refine z_astore_nN C d_X_home_17 (by decide) ?_
      refine z_aload_nN C d_X_home_18 rfl ?_
      refine z_ifnonnullN C d_X_home_19 ?_
      refine z_iconst C d_X_home_22 ?_
      refine z_goto C 30 d_X_home_23 (by decide) ?_
      exact z_iret C d_X_home_30 (by decide) (by decide) (⟨rfl, by rw [e1, if_pos hsn]⟩)
    · obtain ⟨p, a, kd, nd, ka, la, con, sc, sz, kf, zf, hp36, -, ep, hbp, -, ha, -⟩ := xsee hI hx (i := x) (k := y) (by omega) (by omega) hsn
      rw [if_neg hsn, ep, Int.toNat_natCast, hbp, show va_rf (some a) = Value.ref a from rfl]
      refine z_astore_n C d_X_home_17 (by decide) ?_
      refine z_aload_n C d_X_home_18 rfl ?_
      refine z_ifnonnull C 26 d_X_home_19 (by decide) ?_
      refine z_aload_n C d_X_home_26 rfl ?_
      refine z_getN C in_B (ha) rfl 1 (by decide) nl_115 rfl rfl d_X_home_27 ?_
      exact z_iret C d_X_home_30 (by decide) (by decide) (⟨rfl, by rw [e1, if_neg hsn, ep, show ((p : Nat) : Int) / 12 = ((p / 12 : Nat) : Int) from by omega]⟩)
  · refine z_iconst C d_X_home_9 ?_
    exact z_iret C d_X_home_10 (by decide) (by decide) (by rw [show sp_home s i k = -1 from if_pos (by omega)]; exact ⟨rfl, rfl⟩)
set_option maxRecDepth 100000 in
set_option maxHeartbeats 4000000 in
theorem cX_held (i n : Int) (hI : Inv s) (hx : xG cI cZ cJ cB X O bnd mkr g s kp wk σ) (ri : -2147483648 ≤ i ∧ i ≤ 2147483647) (rn : -2147483648 ≤ n ∧ n ≤ 2147483647) : zM l D vwCl A (ztys cI cZ cJ cB) (zF A X) y_X_held ws_X_held (zroom 1 0 0) [.ref (X 0), iv i, iv n] σ (fun r σ' => σ' = σ ∧ r = some (jv (sp_held s i n))) := by
  refine zMet2 (zF_ok A X) (by decide) (Nat.le_of_ble_eq_true rfl) (fun K hKl C => ?_)
  obtain ⟨hO, hX, h1, h2, h3, h4, h5, hB, hBf, hbn, hmk, hvl, hwk, hkp, hk1, hk2, hk3⟩ := id hx
  have hmd := hI.md
  refine z_aload_n C d_X_held_0 rfl ?_
  refine z_iload_n C d_X_held_1 rfl ?_
  refine z_callV C hKl (cX_makerOf i hI hx ri) (zgood (fun _ h => h) tw_co_X_makerOf) rfl (hX) rfl tw_ml_X_100 tw_im_X_makerOf tw_se_X_makerOf tw_in_X pd_X_makerOf (by decide) rfl (Nat.le_of_ble_eq_true rfl) (by decide) d_X_held_2 (fun r σ hp => ?_)
  obtain ⟨rfl, rfl⟩ := hp
  by_cases hbad : i < 0 ∨ s 23 0 ≤ i
  · rw [if_pos hbad, show va_rf none = Value.null from rfl]
    refine z_astore_nN C d_X_held_5 (by decide) ?_
    refine z_aload_nN C d_X_held_6 rfl ?_
    refine z_ifnullN C 18 d_X_held_7 (by decide) ?_
    refine z_ldc2 C (-1) tw_kl_X_94 d_X_held_18 ?_
    exact z_lret C d_X_held_21 (by decide) (by decide) (by rw [show sp_held s i n = -1 from if_pos (by omega)]; exact ⟨rfl, rfl⟩)
  · obtain ⟨x, rfl⟩ := Int.eq_ofNat_of_zero_le (show 0 ≤ i by omega)
    obtain ⟨a, kd, con, kept, iw, kf, zf, m1, ⟨m2, nd, ka, la, m3, m4, m5⟩, m6⟩ := hmk x (by omega)
    obtain ⟨-, n1, n2, n3, n4, n5, n6⟩ := m4
    rw [if_neg hbad, Int.toNat_natCast, m1, show va_rf (some a) = Value.ref a from rfl]
    have hin := hI.inn x
    refine z_astore_n C d_X_held_5 (by decide) ?_
    refine z_aload_n C d_X_held_6 rfl ?_
    refine z_ifnull C d_X_held_7 ?_
    refine z_aload_n C d_X_held_10 rfl ?_
    refine z_iload_n C d_X_held_11 rfl ?_
    refine z_callS C hKl (cX_hasNeed n m3 n1 n4 rn) (zgood (fun _ h => h) tw_co_X_hasNeed) rfl tw_ml_X_104 tw_st_X_hasNeed tw_in_X pd_X_hasNeed (by decide) rfl (Nat.le_of_ble_eq_true rfl) (by decide) d_X_held_12 (fun r σ hp => ?_)
    obtain ⟨rfl, b, rfl, hb⟩ := hp
    refine z_if_ne C 22 (by omega) d_X_held_15 (by decide) (fun h15 => ?_) (fun h15 => ?_)
    · refine z_aload_n C d_X_held_22 rfl ?_
      refine z_get C in_X (hX) rfl 3 (by decide) tw_fl_X_26 rfl rfl d_X_held_23 ?_
      refine z_iload_n C d_X_held_26 rfl ?_
      refine z_iconst C d_X_held_27 ?_
      refine z_imul C d_X_held_28 ?_
      refine z_iload_n C d_X_held_29 rfl ?_
      refine z_iadd C d_X_held_30 ?_
      refine z_lald C 2 rfl h4 (4 * x + n.toNat) (by omega) (by omega) (by decide) d_X_held_31 ?_
      exact z_lret C d_X_held_32 (by decide) (by decide) (by rw [show sp_held s x n = s 22 (4 * x + n.toNat) from by unfold sp_held; rw [Int.toNat_natCast, if_neg (by omega)], hvl x n.toNat (by omega) (by omega)]; exact ⟨rfl, rfl⟩)
    · refine z_ldc2 C (-1) tw_kl_X_94 d_X_held_18 ?_
      exact z_lret C d_X_held_21 (by decide) (by decide) (by rw [show sp_held s x n = -1 from if_pos (by rw [Int.toNat_natCast]; omega)]; exact ⟨rfl, rfl⟩)
set_option maxRecDepth 100000 in
set_option maxHeartbeats 4000000 in
theorem cX_about (i w : Int) (hI : Inv s) (hx : xG cI cZ cJ cB X O bnd mkr g s kp wk σ) (ri : -2147483648 ≤ i ∧ i ≤ 2147483647) (rw : -2147483648 ≤ w ∧ w ≤ 2147483647) : zM l D vwCl A (ztys cI cZ cJ cB) (zF A X) y_X_about ws_X_about (zroom 1 0 0) [.ref (X 0), iv i, iv w] σ (fun r σ' => σ' = σ ∧ r = some (iv (sp_about s i w))) := by
  refine zMet2 (zF_ok A X) (by decide) (Nat.le_of_ble_eq_true rfl) (fun K hKl C => ?_)
  obtain ⟨hO, hX, h1, h2, h3, h4, h5, hB, hBf, hbn, hmk, hvl, hwk, hkp, hk1, hk2, hk3⟩ := id hx
  have hmd := hI.md
  refine z_aload_n C d_X_about_0 rfl ?_
  refine z_iload_n C d_X_about_1 rfl ?_
  refine z_callV C hKl (cX_makerOf i hI hx ri) (zgood (fun _ h => h) tw_co_X_makerOf) rfl (hX) rfl tw_ml_X_100 tw_im_X_makerOf tw_se_X_makerOf tw_in_X pd_X_makerOf (by decide) rfl (Nat.le_of_ble_eq_true rfl) (by decide) d_X_about_2 (fun r σ hp => ?_)
  obtain ⟨rfl, rfl⟩ := hp
  by_cases hbad : i < 0 ∨ s 23 0 ≤ i
  · rw [if_pos hbad, show va_rf none = Value.null from rfl]
    refine z_astore_nN C d_X_about_5 (by decide) ?_
    refine z_aload_nN C d_X_about_6 rfl ?_
    refine z_ifnonnullN C d_X_about_7 ?_
    refine z_iconst C d_X_about_10 ?_
    exact z_iret C d_X_about_11 (by decide) (by decide) (by rw [show sp_about s i w = -1 from if_pos (by omega)]; exact ⟨rfl, rfl⟩)
  · obtain ⟨x, rfl⟩ := Int.eq_ofNat_of_zero_le (show 0 ≤ i by omega)
    obtain ⟨a, kd, con, kept, iw, kf, zf, m1, ⟨m2, nd, ka, la, m3, m4, m5⟩, m6⟩ := hmk x (by omega)
    obtain ⟨-, n1, n2, n3, n4, n5, n6⟩ := m4
    rw [if_neg hbad, Int.toNat_natCast, m1, show va_rf (some a) = Value.ref a from rfl]
    have hin := hI.inn x
    refine z_astore_n C d_X_about_5 (by decide) ?_
    refine z_aload_n C d_X_about_6 rfl ?_
    refine z_ifnonnull C 12 d_X_about_7 (by decide) ?_
    refine z_iload_n C d_X_about_12 rfl ?_
    by_cases c0 : w = 0
    · subst c0
      refine z_tableIn C 44 (by omega) d_X_about_13 (by omega) (by omega) (off := 31) (by decide) (by decide) ?_
      refine z_aload_n C d_X_about_44 rfl ?_
      refine z_getN C in_B (m3) rfl 2 (by decide) nl_121 rfl rfl d_X_about_45 ?_
      exact z_iret C d_X_about_48 (by decide) (by decide) (by unfold sp_about; rw [if_neg (by omega), Int.toNat_natCast, if_pos (by omega)]; exact ⟨rfl, rfl⟩)
    by_cases c1 : w = 1
    · subst c1
      refine z_tableIn C 49 (by omega) d_X_about_13 (by omega) (by omega) (off := 36) (by decide) (by decide) ?_
      refine z_aload_n C d_X_about_49 rfl ?_
      refine z_getN C in_B (m3) rfl 1 (by decide) nl_115 rfl rfl d_X_about_50 ?_
      exact z_iret C d_X_about_53 (by decide) (by decide) (by unfold sp_about; rw [if_neg (by omega), Int.toNat_natCast, if_neg (by omega), if_pos (by omega)]; exact ⟨rfl, rfl⟩)
    by_cases c2 : w = 2
    · subst c2
      refine z_tableIn C 54 (by omega) d_X_about_13 (by omega) (by omega) (off := 41) (by decide) (by decide) ?_
      refine z_aload_n C d_X_about_54 rfl ?_
      refine z_getN C in_B (m3) rfl 5 (by decide) nl_108 rfl rfl d_X_about_55 ?_
      refine z_getN C in_N (n1) rfl 2 (by decide) nl_47 rfl rfl d_X_about_58 ?_
      exact z_iret C d_X_about_61 (by decide) (by decide) (by unfold sp_about; rw [if_neg (by omega), Int.toNat_natCast, if_neg (by omega), if_neg (by omega), if_pos (by omega)]; exact ⟨rfl, rfl⟩)
    by_cases c3 : w = 3
    · subst c3
      refine z_tableIn C 62 (by omega) d_X_about_13 (by omega) (by omega) (off := 49) (by decide) (by decide) ?_
      refine z_aload_n C d_X_about_62 rfl ?_
      refine z_getN C in_B (m3) rfl 4 (by decide) nl_88 rfl rfl d_X_about_63 ?_
      exact z_iret C d_X_about_66 (by decide) (by decide) (by unfold sp_about; rw [if_neg (by omega), Int.toNat_natCast, if_neg (by omega), if_neg (by omega), if_neg (by omega), if_pos (by omega)]; exact ⟨rfl, rfl⟩)
    refine z_tableOut C 67 (by omega) d_X_about_13 (by omega) (by decide) ?_
    refine z_iconst C d_X_about_67 ?_
    exact z_iret C d_X_about_68 (by decide) (by decide) (by unfold sp_about; rw [if_neg (by omega), if_neg c0, if_neg c1, if_neg c2, if_neg c3]; exact ⟨rfl, rfl⟩)
set_option maxRecDepth 100000 in
set_option maxHeartbeats 4000000 in
theorem cX_count (w : Int) (rw : -2147483648 ≤ w ∧ w ≤ 2147483647) (hI : Inv s) (hx : xG cI cZ cJ cB X O bnd mkr g s (fun p => kpt s p - 1) wk σ) : zM l D vwCl A (ztys cI cZ cJ cB) (zF A X) y_X_count ws_X_count (zroom 1 0 0) [.ref (X 0), iv w] σ (fun r σ' => σ' = σ ∧ r = some (iv (sp_count s w))) := by
  refine zMet2 (zF_ok A X) (by decide) (Nat.le_of_ble_eq_true rfl) (fun K hKl C => ?_)
  obtain ⟨hO, hX, h1, h2, h3, h4, h5, hB, hBf, hbn, hmk, hvl, hwk, hkp, hk1, hk2, hk3⟩ := id hx
  have hop := hI.op
  refine z_iload_n C d_X_count_0 rfl ?_
  by_cases c0 : w = 0
  · subst c0
    refine z_tableIn C 40 (by omega) d_X_count_1 (by omega) (by omega) (off := 39) (by decide) (by decide) ?_
    refine z_aload_n C d_X_count_40 rfl ?_
    refine z_get C in_X (hX) rfl 6 (by decide) tw_fl_X_13 rfl rfl d_X_count_41 ?_
    exact z_iret C d_X_count_44 (by decide) (by decide) (⟨rfl, rfl⟩)
  by_cases c1 : w = 1
  · subst c1
    refine z_tableIn C 45 (by omega) d_X_count_1 (by omega) (by omega) (off := 44) (by decide) (by decide) ?_
    refine z_aload_n C d_X_count_45 rfl ?_
    refine z_get C in_X (hX) rfl 7 (by decide) tw_fl_X_143 rfl rfl d_X_count_46 ?_
    exact z_iret C d_X_count_49 (by decide) (by decide) (⟨rfl, rfl⟩)
  by_cases c2 : w = 2
  · subst c2
    refine z_tableIn C 50 (by omega) d_X_count_1 (by omega) (by omega) (off := 49) (by decide) (by decide) ?_
    refine z_aload_n C d_X_count_50 rfl ?_
    refine z_callV C hKl (cX_countBindings hx) (zgood (fun _ h => h) tw_co_X_countBindings) rfl (hX) rfl tw_ml_X_146 tw_im_X_countBindings tw_se_X_countBindings tw_in_X pd_X_countBindings (by decide) rfl (Nat.le_of_ble_eq_true rfl) (by decide) d_X_count_51 (fun r σ hp => ?_)
    obtain ⟨rfl, rfl⟩ := hp
    exact z_iret C d_X_count_54 (by decide) (by decide) (⟨rfl, rfl⟩)
  by_cases c3 : w = 3
  · subst c3
    refine z_tableIn C 55 (by omega) d_X_count_1 (by omega) (by omega) (off := 54) (by decide) (by decide) ?_
    refine z_aload_n C d_X_count_55 rfl ?_
    refine z_iconst C d_X_count_56 ?_
    refine z_callV C hKl (cX_countKept 1 11 (Or.inl ⟨rfl, rfl⟩) hI hx) (zgood (fun _ h => h) tw_co_X_countKept) rfl (hX) rfl tw_ml_X_84 tw_im_X_countKept tw_se_X_countKept tw_in_X pd_X_countKept (by decide) rfl (Nat.le_of_ble_eq_true rfl) (by decide) d_X_count_57 (fun r σ hp => ?_)
    obtain ⟨rfl, rfl⟩ := hp
    exact z_iret C d_X_count_60 (by decide) (by decide) (⟨rfl, rfl⟩)
  by_cases c4 : w = 4
  · subst c4
    refine z_tableIn C 61 (by omega) d_X_count_1 (by omega) (by omega) (off := 60) (by decide) (by decide) ?_
    refine z_aload_n C d_X_count_61 rfl ?_
    refine z_iconst C d_X_count_62 ?_
    refine z_callV C hKl (cX_countKept 2 12 (Or.inr ⟨rfl, rfl⟩) hI hx) (zgood (fun _ h => h) tw_co_X_countKept) rfl (hX) rfl tw_ml_X_84 tw_im_X_countKept tw_se_X_countKept tw_in_X pd_X_countKept (by decide) rfl (Nat.le_of_ble_eq_true rfl) (by decide) d_X_count_63 (fun r σ hp => ?_)
    obtain ⟨rfl, rfl⟩ := hp
    exact z_iret C d_X_count_66 (by decide) (by decide) (⟨rfl, rfl⟩)
  by_cases c5 : w = 5
  · subst c5
    refine z_tableIn C 67 (by omega) d_X_count_1 (by omega) (by omega) (off := 66) (by decide) (by decide) ?_
    refine z_aload_n C d_X_count_67 rfl ?_
    refine z_get C in_X (hX) rfl 8 (by decide) tw_fl_X_80 rfl rfl d_X_count_68 ?_
    refine z_if_eq C 78 (by omega) d_X_count_71 (by decide) (fun h71 => ?_) (fun h71 => ?_)
    · refine z_iconst C d_X_count_78 ?_
      exact z_iret C d_X_count_79 (by decide) (by decide) (by rw [show sp_count s 5 = 0 from h71]; exact ⟨rfl, rfl⟩)
    · refine z_iconst C d_X_count_74 ?_
      refine z_goto C 79 d_X_count_75 (by decide) ?_
      exact z_iret C d_X_count_79 (by decide) (by decide) (by rw [show sp_count s 5 = 1 from by show s 15 0 = 1; omega]; exact ⟨rfl, rfl⟩)
  refine z_tableOut C 80 (by omega) d_X_count_1 (by omega) (by decide) ?_
  refine z_iconst C d_X_count_80 ?_
  exact z_iret C d_X_count_81 (by decide) (by decide) (by rw [show sp_count s w = -1 from by unfold sp_count; rw [if_neg c0, if_neg c1, if_neg c2, if_neg c3, if_neg c4, if_neg c5]]; exact ⟨rfl, rfl⟩)
end XC2
