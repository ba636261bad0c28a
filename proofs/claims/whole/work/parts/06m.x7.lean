section XC8
variable {l : Launch} {D : va_G} {A : Nat → Prop} {cI cZ cJ cB : ClassId} {X : Nat → Nat} {O : Nat → Prop} {bnd mkr : Nat → Option Nat} {g : Nat → Nat → Int} {σ : zh} {s : St} {kp wk : Nat → Int}
theorem xG.b5 (hx : xG cI cZ cJ cB X O bnd mkr g s kp wk σ) {p : Nat} (hp : p < 36) : (bnd p = none ∧ s 5 p = 0) ∨ ∃ a, bnd p = some a ∧ s 5 p ≠ 0 := by
  rcases hx.2.2.2.2.2.2.2.2.2.1 p hp with z | ⟨a, kd, con, sc, sz, kf, zf, z1, z2, z3⟩
  · exact Or.inl z
  · refine Or.inr ⟨a, z1, ?_⟩
    rcases z3 with z | z | z <;> (have := z.1; omega)
def ck (s : St) (n : Nat) : Nat → Int := fun t => if t < n then s 11 t - 1 else kpt s t - 1
theorem ck_0 (s : St) : ck s 0 = fun t => kpt s t - 1 := by funext t; unfold ck; rw [if_neg (by omega)]
theorem ck_kp (hI : Inv s) (n t : Nat) : -1 ≤ ck s n t ∧ ck s n t ≤ 200 := by
  have h1 := hI.si t
  have h2 := hI.kp t
  have h3 := hI.md
  unfold ck
  split <;> omega
theorem ck_keep {n : Nat} (h : s 12 n = 0) : ck s (n + 1) = ck s n := by
  funext t
  unfold ck kpt
  by_cases c : t = n
  · subst c; rw [if_pos (by omega), if_neg (by omega), h, Int.add_zero]
  · by_cases c2 : t < n
    · rw [if_pos (by omega), if_pos c2]
    · rw [if_neg (by omega), if_neg c2]
theorem ck_drop {n : Nat} (h : s 11 n = 0) : iup (ck s n) n (-1) = ck s (n + 1) := by
  funext t
  by_cases c : t = n
  · subst c; rw [iup_s]; unfold ck; rw [if_pos (by omega), h]; rfl
  · rw [iup_n c]
    unfold ck
    by_cases c2 : t < n
    · rw [if_pos c2, if_pos (by omega)]
    · rw [if_neg c2, if_neg (by omega)]
theorem ck_end (s : St) : (fun t => kpt (srow (sup s 15 0 0) 12 (zer (s 12) 36)) t - 1) = ck s 36 := by
  funext t
  show s 11 t + zer (s 12) 36 t - 1 = ck s 36 t
  unfold ck zer kpt
  by_cases c : t < 36
  · rw [if_pos c, if_pos c, Int.add_zero]
  · rw [if_neg c, if_neg c]
set_option maxRecDepth 100000 in
set_option maxHeartbeats 4000000 in
theorem cX_child (i : Int) (hI : Inv s) (hx : xG cI cZ cJ cB X O bnd mkr g s (fun q => kpt s q - 1) (fun _ => 0) σ) (ri : -2147483648 ≤ i ∧ i ≤ 2147483647) : zM l D vwCl A (ztys cI cZ cJ cB) (zF A X) y_X_child ws_X_child (zroom 1 0 0) [.ref (X 0), iv i] σ (fun r σ' => r = some (iv (sp_child s i).1) ∧ xP cI cZ cJ cB X O σ (sp_child s i).2 σ') := by
  refine zMet2 (zF_ok A X) (by decide) (Nat.le_of_ble_eq_true rfl) (fun K hKl C => ?_)
  obtain ⟨hO, hX, h1, h2, h3, h4, h5, hB, hBf, hbn, hmk, hvl, hwk, hkp, hk1, hk2, hk3⟩ := id hx
  have hinj := hI.inj
  refine z_aload_n C d_X_child_0 rfl ?_
  refine z_iload_n C d_X_child_1 rfl ?_
  refine z_callV C hKl (cX_isInjector i hI hx ri) (zgood (fun _ h => h) tw_co_X_isInjector) rfl (hX) rfl tw_ml_X_40 tw_im_X_isInjector tw_se_X_isInjector tw_in_X pd_X_isInjector (by decide) rfl (Nat.le_of_ble_eq_true rfl) (by decide) d_X_child_2 (fun r σ hp => ?_)
  obtain ⟨rfl, b, rfl, hb⟩ := hp
  refine z_if_eq C 16 (by omega) d_X_child_5 (by decide) (fun h5 => ?_) (fun h5 => ?_)
  · refine z_iconst C d_X_child_16 ?_
    exact z_iret C d_X_child_17 (by decide) (by decide) (by rw [show sp_child s i = (-1, s) from if_pos (by omega)]; exact ⟨rfl, xP.of hx xfr.rf⟩)
  · refine z_aload_n C d_X_child_8 rfl ?_
    refine z_get C in_X (hX) rfl 6 (by decide) tw_fl_X_13 rfl rfl d_X_child_9 ?_
    refine z_iconst C d_X_child_12 ?_
    refine z_icmp_lt C 18 (by omega) (by omega) d_X_child_13 (by decide) (fun h13 => ?_) (fun h13 => ?_)
    · refine z_aload_n C d_X_child_18 rfl ?_
      refine z_get C in_X (hX) rfl 6 (by decide) tw_fl_X_13 rfl rfl d_X_child_19 ?_
      refine z_istore_n C d_X_child_22 (by decide) ?_
      refine z_aload_n C d_X_child_23 rfl ?_
      refine z_get C in_X (hX) rfl 0 (by decide) tw_fl_X_9 rfl rfl d_X_child_24 ?_
      refine z_iload_n C d_X_child_27 rfl ?_
      refine z_iload_n C d_X_child_28 rfl ?_
      refine z_iast C 0 rfl h1 (s 1 0).toNat (by omega) (by omega) (by decide) d_X_child_29 ?_
      refine z_aload_n C d_X_child_30 rfl ?_
      refine z_dup C rfl d_X_child_31 ?_
      refine z_get C in_X (zput_o h1 hX (by intro h; cases h)) rfl 6 (by decide) tw_fl_X_13 rfl rfl d_X_child_32 ?_
      refine z_iconst C d_X_child_35 ?_
      refine z_iadd C d_X_child_36 ?_
      refine z_put C in_X t_X tk_X nm_X (zput_o h1 hX (by intro h; cases h)) rfl 6 (by decide) tw_fl_X_13 rfl rfl (tk_X 6 (by decide)) rfl rfl (Nat.le_of_ble_eq_true rfl) d_X_child_37 ?_
      refine z_eq (σ' := zput (zput σ (X 1) (ia cI 3 (iup (s 0) (s 1 0).toNat i))) (X 0) (ob 2 (xfs X (sup (sup s 0 (s 1 0).toNat i) 1 0 (s 1 0 + 1))))) rfl rfl rfl ?_
      refine z_iload_n C d_X_child_40 rfl ?_
      exact z_iret C d_X_child_41 (by decide) (by decide) (by rw [show sp_child s i = (s 1 0, sup (sup s 0 (s 1 0).toNat i) 1 0 (s 1 0 + 1)) from if_neg (by omega)]; exact ⟨rfl, xP.of ((hx.p1 _ _).o1 _) ((xfr.put hO.2.1).tr (xfr.put hO.1))⟩)
    · refine z_iconst C d_X_child_16 ?_
      exact z_iret C d_X_child_17 (by decide) (by decide) (by rw [show sp_child s i = (-1, s) from if_pos (by omega)]; exact ⟨rfl, xP.of hx xfr.rf⟩)
set_option maxRecDepth 100000 in
set_option maxHeartbeats 4000000 in
theorem cX_open  (hI : Inv s) (hx : xG cI cZ cJ cB X O bnd mkr g s (fun q => kpt s q - 1) (fun _ => 0) σ)  : zM l D vwCl A (ztys cI cZ cJ cB) (zF A X) y_X_open ws_X_open (zroom 0 0 0) [.ref (X 0)] σ (fun r σ' => r = some (iv (sp_open s).1) ∧ xP cI cZ cJ cB X O σ (sp_open s).2 σ') := by
  refine zMet2 (zF_ok A X) (by decide) (Nat.le_of_ble_eq_true rfl) (fun K hKl C => ?_)
  obtain ⟨hO, hX, h1, h2, h3, h4, h5, hB, hBf, hbn, hmk, hvl, hwk, hkp, hk1, hk2, hk3⟩ := id hx
  have hop := hI.op
  refine z_aload_n C d_X_open_0 rfl ?_
  refine z_get C in_X (hX) rfl 8 (by decide) tw_fl_X_80 rfl rfl d_X_open_1 ?_
  refine z_if_eq C 9 (by omega) d_X_open_4 (by decide) (fun h4 => ?_) (fun h4 => ?_)
  · refine z_aload_n C d_X_open_9 rfl ?_
    refine z_iconst C d_X_open_10 ?_
    refine z_put C in_X t_X tk_X nm_X hX rfl 8 (by decide) tw_fl_X_80 rfl rfl (tk_X 8 (by decide)) rfl rfl (Nat.le_of_ble_eq_true rfl) d_X_open_11 ?_
    refine z_eq (σ' := zput σ (X 0) (ob 2 (xfs X (sup s 15 0 1)))) rfl rfl rfl ?_
    refine z_iconst C d_X_open_14 ?_
    exact z_iret C d_X_open_15 (by decide) (by decide) (by rw [show sp_open s = (1, sup s 15 0 1) from if_pos (by omega)]; exact ⟨rfl, xP.of (hx.o15 _) (xfr.put hO.1)⟩)
  · refine z_iconst C d_X_open_7 ?_
    exact z_iret C d_X_open_8 (by decide) (by decide) (by rw [show sp_open s = (-1, s) from if_neg (by omega)]; exact ⟨rfl, xP.of hx xfr.rf⟩)
set_option maxRecDepth 100000 in
set_option maxHeartbeats 4000000 in
theorem cX_drop  (hI : Inv s) (hx : xG cI cZ cJ cB X O bnd mkr g s (fun q => kpt s q - 1) (fun _ => 0) σ)  : zM l D vwCl A (ztys cI cZ cJ cB) (zF A X) y_X_drop ws_X_drop (zroom 0 0 0) [.ref (X 0)] σ (fun r σ' => r = some (iv (sp_drop s).1) ∧ xP cI cZ cJ cB X O σ (sp_drop s).2 σ') := by
  refine zMet2 (zF_ok A X) (by decide) (Nat.le_of_ble_eq_true rfl) (fun K hKl C => ?_)
  obtain ⟨hO, hX, h1, h2, h3, h4, h5, hB, hBf, hbn, hmk, hvl, hwk, hkp, hk1, hk2, hk3⟩ := id hx
  have b2 := hB.1.2.1
  have b3 := hB.1.2.2.1
  have b4 := hB.1.2.2.2.1
  have b5 := hB.1.2.2.2.2
  refine z_aload_n C d_X_drop_0 rfl ?_
  refine z_get C in_X (hX) rfl 5 (by decide) tw_fl_X_36 rfl rfl d_X_drop_1 ?_
  refine z_getN C in_N (b2) rfl 2 (by decide) nl_47 rfl rfl d_X_drop_4 ?_
  refine z_istore_n C d_X_drop_7 (by decide) ?_
  refine z_aload_n C d_X_drop_8 rfl ?_
  refine z_get C in_X (hX) rfl 5 (by decide) tw_fl_X_36 rfl rfl d_X_drop_9 ?_
  refine z_iconst C d_X_drop_12 ?_
  refine z_putN C in_N t_N tk_N nm_N b2 rfl 2 (by decide) nl_47 rfl rfl (tk_N 2 (by decide)) rfl rfl (Nat.le_of_ble_eq_true rfl) d_X_drop_13 ?_
  refine z_eq (σ' := zput σ (X 6) (ob 1 [.ref (X 7), .ref (X 8), iv 0])) rfl rfl rfl ?_
  refine z_iload_n C d_X_drop_16 rfl ?_
  exact z_iret C d_X_drop_17 (by decide) (by decide) (⟨rfl, xP.of (hx.buf (s' := sup s 4 0 0) (zput_s _ _ _) (zput_o b2 b3 (by intro h; cases h)) (zput_o b2 b4 (by intro h; cases h)) (fun b q1 _ _ => zput_n q1) (fun f _ _ q => sup_n q) (by show (0 : Int) ≤ 0 ∧ (0 : Int) ≤ 4; omega) b5.2.1 b5.2.2 (fun j hj => absurd hj (by show ¬ (j : Int) < 0; omega))) (xfr.put hB.1.1.1)⟩)
set_option maxRecDepth 100000 in
set_option maxHeartbeats 4000000 in
theorem cN_append {nd ka la : Nat} {sz : Int} {kf zf : Nat → Int} (k z : Int) (h6 : σ nd = some (ob 1 [.ref ka, .ref la, iv sz])) (h7 : σ ka = some (ia cI 4 kf)) (h8 : σ la = some (ia cZ 4 zf)) (hne : la ≠ ka) (hsz : 0 ≤ sz ∧ sz < 4) (hz : z = 0 ∨ z = 1) : zM l D vwCl A (ztys cI cZ cJ cB) (zF A X) y_N_append ws_N_append (zroom 0 0 0) [.ref nd, iv k, iv z] σ (fun r σ' => r = none ∧ σ' = zput (zput (zput σ ka (ia cI 4 (iup kf sz.toNat k))) la (ia cZ 4 (iup zf sz.toNat z))) nd (ob 1 [.ref ka, .ref la, iv (sz + 1)])) := by
  refine zMet2 (zF_ok A X) (by decide) (Nat.le_of_ble_eq_true rfl) (fun K hKl C => ?_)
  have u1 : zput σ ka (ia cI 4 (iup kf sz.toNat k)) nd = some (ob 1 [.ref ka, .ref la, iv sz]) := zput_o h7 h6 (by intro h; cases h)
  have u2 : zput σ ka (ia cI 4 (iup kf sz.toNat k)) la = some (ia cZ 4 zf) := by rw [zput_n hne]; exact h8
  have u3 : zput (zput σ ka (ia cI 4 (iup kf sz.toNat k))) la (ia cZ 4 (iup zf sz.toNat z)) nd = some (ob 1 [.ref ka, .ref la, iv sz]) := zput_o u2 u1 (by intro h; cases h)
  refine z_aload_n C d_N_append_0 rfl ?_
  refine z_get C in_N (h6) rfl 2 (by decide) tw_fl_N_19 rfl rfl d_N_append_1 ?_
  refine z_iconst C d_N_append_4 ?_
  refine z_icmp_ge C 38 (by omega) (by omega) d_N_append_5 (by decide) (fun h5 => absurd h5 (by omega)) (fun h5 => ?_)
  refine z_aload_n C d_N_append_8 rfl ?_
  refine z_get C in_N (h6) rfl 0 (by decide) tw_fl_N_9 rfl rfl d_N_append_9 ?_
  refine z_aload_n C d_N_append_12 rfl ?_
  refine z_get C in_N (h6) rfl 2 (by decide) tw_fl_N_19 rfl rfl d_N_append_13 ?_
  refine z_iload_n C d_N_append_16 rfl ?_
  refine z_iast C 0 rfl h7 sz.toNat (by omega) (by omega) (by decide) d_N_append_17 ?_
  refine z_aload_n C d_N_append_18 rfl ?_
  refine z_get C in_N (u1) rfl 1 (by decide) tw_fl_N_15 rfl rfl d_N_append_19 ?_
  refine z_aload_n C d_N_append_22 rfl ?_
  refine z_get C in_N (u1) rfl 2 (by decide) tw_fl_N_19 rfl rfl d_N_append_23 ?_
  refine z_iload_n C d_N_append_26 rfl ?_
  refine z_zast C 1 rfl u2 sz.toNat (by omega) (by omega) (by decide) hz d_N_append_27 ?_
  refine z_aload_n C d_N_append_28 rfl ?_
  refine z_dup C rfl d_N_append_29 ?_
  refine z_get C in_N (u3) rfl 2 (by decide) tw_fl_N_19 rfl rfl d_N_append_30 ?_
  refine z_iconst C d_N_append_33 ?_
  refine z_iadd C d_N_append_34 ?_
  refine z_put C in_N t_N tk_N nm_N u3 rfl 2 (by decide) tw_fl_N_19 rfl rfl (tk_N 2 (by decide)) rfl rfl (Nat.le_of_ble_eq_true rfl) d_N_append_35 ?_
  refine z_eq (σ' := zput (zput (zput σ ka (ia cI 4 (iup kf sz.toNat k))) la (ia cZ 4 (iup zf sz.toNat z))) nd (ob 1 [.ref ka, .ref la, iv (sz + 1)])) rfl rfl rfl ?_
  exact z_vret C d_N_append_38 (by decide) (by decide) (⟨rfl, rfl⟩)
set_option maxRecDepth 100000 in
set_option maxHeartbeats 4000000 in
theorem cX_need (k z : Int) (hI : Inv s) (hx : xG cI cZ cJ cB X O bnd mkr g s (fun q => kpt s q - 1) (fun _ => 0) σ) (rk : -2147483648 ≤ k ∧ k ≤ 2147483647) (hz : z = 0 ∨ z = 1) : zM l D vwCl A (ztys cI cZ cJ cB) (zF A X) y_X_need ws_X_need (zroom 1 0 0) [.ref (X 0), iv k, iv z] σ (fun r σ' => r = some (iv (sp_need s k z).1) ∧ xP cI cZ cJ cB X O σ (sp_need s k z).2 σ') := by
  refine zMet2 (zF_ok A X) (by decide) (Nat.le_of_ble_eq_true rfl) (fun K hKl C => ?_)
  obtain ⟨hO, hX, h1, h2, h3, h4, h5, hB, hBf, hbn, hmk, hvl, hwk, hkp, hk1, hk2, hk3⟩ := id hx
  have b2 := hB.1.2.1
  have b3 := hB.1.2.2.1
  have b4 := hB.1.2.2.2.1
  have b5 := hB.1.2.2.2.2
  have hne : X 8 ≠ X 7 := fun e => hB.2 e.symm
  have hbn' := hI.bn
  refine z_iload_n C d_X_need_0 rfl ?_
  refine z_callS C hKl (cX_isKey k rk) (zgood (fun _ h => h) tw_co_X_isKey) rfl tw_ml_X_44 tw_st_X_isKey tw_in_X pd_X_isKey (by decide) rfl (Nat.le_of_ble_eq_true rfl) (by decide) d_X_need_1 (fun r σ hp => ?_)
  obtain ⟨rfl, b, rfl, hb⟩ := hp
  refine z_if_eq C 18 (by omega) d_X_need_4 (by decide) (fun h4 => ?_) (fun h4 => ?_)
  · refine z_iconst C d_X_need_18 ?_
    exact z_iret C d_X_need_19 (by decide) (by decide) (by rw [show sp_need s k z = (-1, s) from if_pos (by omega)]; exact ⟨rfl, xP.of hx xfr.rf⟩)
  · refine z_aload_n C d_X_need_7 rfl ?_
    refine z_get C in_X (hX) rfl 5 (by decide) tw_fl_X_36 rfl rfl d_X_need_8 ?_
    refine z_getN C in_N (b2) rfl 2 (by decide) nl_47 rfl rfl d_X_need_11 ?_
    refine z_iconst C d_X_need_14 ?_
    refine z_icmp_lt C 20 (by omega) (by omega) d_X_need_15 (by decide) (fun h15 => ?_) (fun h15 => ?_)
    · refine z_aload_n C d_X_need_20 rfl ?_
      refine z_get C in_X (hX) rfl 5 (by decide) tw_fl_X_36 rfl rfl d_X_need_21 ?_
      refine z_iload_n C d_X_need_24 rfl ?_
      refine z_iload_n C d_X_need_25 rfl ?_
      refine z_callVN C hKl (cN_append k z b2 b3 b4 hne (by omega) hz) (zgood (fun _ h => h) tw_co_N_append) rfl b2 rfl nl_50 tw_im_N_append tw_se_N_append tw_in_N pd_N_append (by decide) rfl (Nat.le_of_ble_eq_true rfl) (by decide) d_X_need_26 (fun r σ1 hq => ?_)
      obtain ⟨rfl, rfl⟩ := hq
      have v1 : zput (zput σ (X 7) (ia cI 4 (iup (g 2) (s 4 0).toNat k))) (X 8) (ia cZ 4 (iup (g 3) (s 4 0).toNat z)) (X 0) = some (ob 2 (xfs X s)) := zput_o (show zput σ (X 7) (ia cI 4 (iup (g 2) (s 4 0).toNat k)) (X 8) = some (ia cZ 4 (g 3)) by rw [zput_n hne]; exact b4) (zput_o b3 hX (by intro h; cases h)) (by intro h; cases h)
      have v2 : zput (zput σ (X 7) (ia cI 4 (iup (g 2) (s 4 0).toNat k))) (X 8) (ia cZ 4 (iup (g 3) (s 4 0).toNat z)) (X 6) = some (ob 1 [.ref (X 7), .ref (X 8), iv (s 4 0)]) := zput_o (show zput σ (X 7) (ia cI 4 (iup (g 2) (s 4 0).toNat k)) (X 8) = some (ia cZ 4 (g 3)) by rw [zput_n hne]; exact b4) (zput_o b3 b2 (by intro h; cases h)) (by intro h; cases h)
      have n67 : X 6 ≠ X 7 := fun e => by rw [e, b3] at b2; cases b2
      have n68 : X 6 ≠ X 8 := fun e => by rw [e, b4] at b2; cases b2
      refine z_aload_n C d_X_need_29 rfl ?_
      refine z_get C in_X (zput_o v2 v1 (by intro h; cases h)) rfl 5 (by decide) tw_fl_X_36 rfl rfl d_X_need_30 ?_
      refine z_getN C in_N (zput_s _ _ _) rfl 2 (by decide) nl_47 rfl rfl d_X_need_33 ?_
      exact z_iret C d_X_need_36 (by decide) (by decide) (by
        rw [show sp_need s k z = (s 4 0 + 1, sup (sup (sup s 2 (s 4 0).toNat k) 3 (s 4 0).toNat z) 4 0 (s 4 0 + 1)) from if_neg (by omega)]
        refine ⟨rfl, xP.of (hx.buf (s' := sup (sup (sup s 2 (s 4 0).toNat k) 3 (s 4 0).toNat z) 4 0 (s 4 0 + 1)) (kf := iup (g 2) (s 4 0).toNat k) (zf := iup (g 3) (s 4 0).toNat z) (zput_s _ _ _) ?_ ?_ (fun b q1 q2 q3 => ?_) (fun f q1 q2 q3 => ?_) ?_ (fun j => ?_) (fun j => ?_) (fun j hj => ?_)) (((xfr.put hB.1.1.2.1).tr (xfr.put hB.1.1.2.2)).tr (xfr.put hB.1.1.1))⟩
        · rw [zput_n (Ne.symm n67), zput_n (Ne.symm hne), zput_s]
        · rw [zput_n (Ne.symm n68), zput_s]
        · rw [zput_n q1, zput_n q3, zput_n q2]
        · rw [sup_n q3, sup_n q2, sup_n q1]
        · show 0 ≤ s 4 0 + 1 ∧ s 4 0 + 1 ≤ 4
          omega
        · by_cases c : j = (s 4 0).toNat
          · rw [c, iup_s]; omega
          · rw [iup_n c]; exact b5.2.1 j
        · by_cases c : j = (s 4 0).toNat
          · rw [c, iup_s]; exact hz
          · rw [iup_n c]; exact b5.2.2 j
        · have hj : (j : Int) < s 4 0 + 1 := hj
          show iup (g 2) (s 4 0).toNat k j = iup (s 2) (s 4 0).toNat k j ∧ iup (g 3) (s 4 0).toNat z j = iup (s 3) (s 4 0).toNat z j
          by_cases c : j = (s 4 0).toNat
          · rw [c, iup_s, iup_s, iup_s, iup_s]; exact ⟨rfl, rfl⟩
          · rw [iup_n c, iup_n c, iup_n c, iup_n c]; exact hBf j (by omega))
    · refine z_iconst C d_X_need_18 ?_
      exact z_iret C d_X_need_19 (by decide) (by decide) (by rw [show sp_need s k z = (-1, s) from if_pos (by omega)]; exact ⟨rfl, xP.of hx xfr.rf⟩)
set_option maxRecDepth 100000 in
set_option maxHeartbeats 4000000 in
theorem cX_unbind (i k : Int) (hI : Inv s) (hx : xG cI cZ cJ cB X O bnd mkr g s (fun q => kpt s q - 1) (fun _ => 0) σ) (ri : -2147483648 ≤ i ∧ i ≤ 2147483647) (rk : -2147483648 ≤ k ∧ k ≤ 2147483647) : zM l D vwCl A (ztys cI cZ cJ cB) (zF A X) y_X_unbind ws_X_unbind (zroom 2 0 0) [.ref (X 0), iv i, iv k] σ (fun r σ' => r = some (iv (sp_unbind s i k).1) ∧ xP cI cZ cJ cB X O σ (sp_unbind s i k).2 σ') := by
  refine zMet2 (zF_ok A X) (by decide) (Nat.le_of_ble_eq_true rfl) (fun K hKl C => ?_)
  obtain ⟨hO, hX, h1, h2, h3, h4, h5, hB, hBf, hbn, hmk, hvl, hwk, hkp, hk1, hk2, hk3⟩ := id hx
  have hinj := hI.inj
  refine z_aload_n C d_X_unbind_0 rfl ?_
  refine z_iload_n C d_X_unbind_1 rfl ?_
  refine z_iload_n C d_X_unbind_2 rfl ?_
  refine z_callV C hKl (cX_isPair i k hI hx ri rk) (zgood (fun _ h => h) tw_co_X_isPair) rfl (hX) rfl tw_ml_X_77 tw_im_X_isPair tw_se_X_isPair tw_in_X pd_X_isPair (by decide) rfl (Nat.le_of_ble_eq_true rfl) (by decide) d_X_unbind_3 (fun r σ hp => ?_)
  obtain ⟨rfl, b, rfl, hb⟩ := hp
  refine z_if_eq C 22 (by omega) d_X_unbind_6 (by decide) (fun h6 => ?_) (fun h6 => ?_)
  · refine z_iconst C d_X_unbind_22 ?_
    exact z_iret C d_X_unbind_23 (by decide) (by decide) (by rw [show sp_unbind s i k = (-1, s) from if_pos (by omega)]; exact ⟨rfl, xP.of hx xfr.rf⟩)
  · have hpr : ((pr i k : Nat) : Int) = 12 * i + k := by unfold pr; omega
    refine z_aload_n C d_X_unbind_9 rfl ?_
    refine z_get C in_X (hX) rfl 1 (by decide) tw_fl_X_19 rfl rfl d_X_unbind_10 ?_
    refine z_iload_n C d_X_unbind_13 rfl ?_
    refine z_iload_n C d_X_unbind_14 rfl ?_
    refine z_callS C hKl (cX_pairOf (i) (k)) (zgood (fun _ h => h) tw_co_X_pairOf) rfl tw_ml_X_58 tw_st_X_pairOf tw_in_X pd_X_pairOf (by decide) rfl (Nat.le_of_ble_eq_true rfl) (by decide) d_X_unbind_15 (fun r σ hp => ?_)
    obtain ⟨rfl, rfl⟩ := hp
    refine z_aald C 3 rfl h2 (pr i k) (by omega) (by omega) (by decide) d_X_unbind_18 ?_
    rcases hx.b5 (p := pr i k) (by omega) with ⟨q1, q2⟩ | ⟨a, q1, q2⟩
    · rw [q1, show va_rf none = Value.null from rfl]
      refine z_ifnonnullN C d_X_unbind_19 ?_
      refine z_iconst C d_X_unbind_22 ?_
      exact z_iret C d_X_unbind_23 (by decide) (by decide) (by rw [show sp_unbind s i k = (-1, s) from if_pos (by omega)]; exact ⟨rfl, xP.of hx xfr.rf⟩)
    · rw [q1, show va_rf (some a) = Value.ref a from rfl]
      refine z_ifnonnull C 24 d_X_unbind_19 (by decide) ?_
      refine z_aload_n C d_X_unbind_24 rfl ?_
      refine z_get C in_X (hX) rfl 1 (by decide) tw_fl_X_19 rfl rfl d_X_unbind_25 ?_
      refine z_iload_n C d_X_unbind_28 rfl ?_
      refine z_iload_n C d_X_unbind_29 rfl ?_
      refine z_callS C hKl (cX_pairOf (i) (k)) (zgood (fun _ h => h) tw_co_X_pairOf) rfl tw_ml_X_58 tw_st_X_pairOf tw_in_X pd_X_pairOf (by decide) rfl (Nat.le_of_ble_eq_true rfl) (by decide) d_X_unbind_30 (fun r σ hp => ?_)
      obtain ⟨rfl, rfl⟩ := hp
      refine z_null C d_X_unbind_33 ?_
      refine z_aastN C 3 rfl h2 (pr i k) (by omega) (by omega) (by decide) d_X_unbind_34 ?_
      refine z_iconst C d_X_unbind_35 ?_
      exact z_iret C d_X_unbind_36 (by decide) (by decide) (by
        rw [show sp_unbind s i k = (1, sup (sup (sup s 5 (pr i k) 0) 11 (pr i k) 0) 12 (pr i k) 0) from if_neg (by omega)]
        refine ⟨rfl, xP.of (hx.bnw (p := pr i k) (x := none) (s' := sup (sup (sup s 5 (pr i k) 0) 11 (pr i k) 0) 12 (pr i k) 0) (by omega) (fun f hf => ?_) (fun q hq hne => ?_) (fun q => ?_) (Or.inl ⟨by simp [va_up], ?_⟩)) (xfr.put hO.2.2.1)⟩
        · rw [sup_n (by omega), sup_n (by omega), sup_n (by omega)]
        · refine ⟨iup_n hne, rfl, rfl, rfl, fun j _ => ⟨rfl, rfl⟩, ?_⟩
          show iup (s 11) (pr i k) 0 q + iup (s 12) (pr i k) 0 q - 1 = s 11 q + s 12 q - 1
          rw [iup_n hne, iup_n hne]
        · show -1 ≤ iup (s 11) (pr i k) 0 q + iup (s 12) (pr i k) 0 q - 1 ∧ iup (s 11) (pr i k) 0 q + iup (s 12) (pr i k) 0 q - 1 ≤ 200
          have hq1 := hI.kp q
          have hq2 := hI.md
          unfold kpt at hq1
          by_cases c : q = pr i k
          · rw [c, iup_s, iup_s]; omega
          · rw [iup_n c, iup_n c]; omega
        · exact iup_s _ _ _)
set_option maxRecDepth 100000 in
set_option maxHeartbeats 4000000 in
theorem cX_close  (hI : Inv s) (hx : xG cI cZ cJ cB X O bnd mkr g s (fun q => kpt s q - 1) (fun _ => 0) σ)  : zM l D vwCl A (ztys cI cZ cJ cB) (zF A X) y_X_close ws_X_close (zroom 1 0 0) [.ref (X 0)] σ (fun r σ' => r = some (iv (sp_close s).1) ∧ xP cI cZ cJ cB X O σ (sp_close s).2 σ') := by
  refine zMet2 (zF_ok A X) (by decide) (Nat.le_of_ble_eq_true rfl) (fun K hKl C => ?_)
  obtain ⟨hO, hX, h1, h2, h3, h4, h5, hB, hBf, hbn, hmk, hvl, hwk, hkp, hk1, hk2, hk3⟩ := id hx
  have hop := hI.op
  have hcz := cntz_r (s 12) 36
  have loop : s 15 0 ≠ 0 → ∀ (n q : Nat) (σ1 : zh), q + n = 36 → xG cI cZ cJ cB X O bnd mkr g s (ck s q) (fun _ => 0) σ1 → xF O σ σ1 → ∀ a5 : Option Value, zJ K D vwCl A 6 (zQ K D vwCl A (fun r σ' => r = some (iv (sp_close s).1) ∧ xP cI cZ cJ cB X O σ (sp_close s).2 σ') 0 0) 0 0 σ1 26 [some (.ref (X 0)), some (iv (cntz (s 12) 36)), some (.ref (X 2)), some (iv 36), some (iv (q : Int)), a5] [] := by
    intro hopen n
    induction n with
    | zero =>
      intro q σ1 hq hx1 hF1 a5
      have e : q = 36 := by omega
      subst e
      refine z_iload C d_X_close_26 rfl ?_
      refine z_iload_n C d_X_close_28 rfl ?_
      refine z_icmp_ge C 64 (by omega) (by omega) d_X_close_29 (by decide) (fun h29 => ?_) (fun h29 => absurd h29 (by omega))
      refine z_aload_n C d_X_close_64 rfl ?_
      refine z_iconst C d_X_close_65 ?_
      refine z_put C in_X t_X tk_X nm_X hx1.2.1 rfl 8 (by decide) tw_fl_X_80 rfl rfl (tk_X 8 (by decide)) rfl rfl (Nat.le_of_ble_eq_true rfl) d_X_close_66 ?_
      refine z_eq (σ' := zput σ1 (X 0) (ob 2 (xfs X (sup s 15 0 0)))) rfl rfl rfl ?_
      refine z_iload_n C d_X_close_69 rfl ?_
      exact z_iret C d_X_close_70 (by decide) (by decide) (by
        rw [show sp_close s = (cntz (s 12) 36, srow (sup s 15 0 0) 12 (zer (s 12) 36)) from if_neg hopen]
        have hx2 := hx1.o15 0
        rw [← ck_end s] at hx2
        exact ⟨rfl, xP.of (hx2.sq2 (fun f hf => srow_n (by omega)) (fun i hi => ⟨rfl, rfl, rfl, rfl⟩) (fun j hj => ⟨rfl, rfl, rfl⟩)) (hF1.1.tr (xfr.put hx1.1.1))⟩)
    | succ n ih =>
      intro q σ1 hq hx1 hF1 a5
      refine z_iload C d_X_close_26 rfl ?_
      refine z_iload_n C d_X_close_28 rfl ?_
      refine z_icmp_ge C 64 (by omega) (by omega) d_X_close_29 (by decide) (fun h29 => absurd h29 (by omega)) (fun h29 => ?_)
      refine z_aload_n C d_X_close_32 rfl ?_
      refine z_iload C d_X_close_33 rfl ?_
      refine z_aald C 3 rfl hx1.2.2.2.1 q rfl (by omega) (by decide) d_X_close_35 ?_
      rcases hq : bnd q with _ | a
      · rw [show va_rf none = Value.null from rfl]
        refine z_astoreN C d_X_close_36 (by decide) ?_
        refine z_aloadN C d_X_close_38 rfl ?_
        refine z_ifnullN C 58 d_X_close_40 (by decide) ?_
        refine z_iinc C d_X_close_58 rfl (by decide) ?_
        refine z_goto C 26 d_X_close_61 (by decide) ?_
        have h0 : s 12 q = 0 := by
          rcases hx.b5 (p := q) (by omega) with z | ⟨a, z, -⟩
          · have h12 := hI.re2 (p := q)
            have z2 := z.2
            apply Classical.byContradiction
            intro h; have := (h12 h).1; omega
          · rw [hq] at z; cases z
        rw [← ck_keep h0] at hx1
        have j := ih (q + 1) σ1 (by omega) hx1 hF1 (some .null)
        rw [show ((q + 1 : Nat) : Int) = (q : Int) + 1 from by omega] at j
        exact j
      · rw [show va_rf (some a) = Value.ref a from rfl]
        obtain ⟨kd, nd, con, sc, hOa, ha, hsc⟩ : ∃ (kd nd : Nat) (con sc : Int), O a ∧ σ1 a = some (ob 0 [.ref kd, iv ((q / 12 : Nat) : Int), iv ((q % 12 : Nat) : Int), iv con, iv sc, .ref nd, iv (ck s q q), iv 0]) ∧ (0 ≤ sc ∧ sc ≤ 2 ∧ (sc = 2 → s 11 q = 0) ∧ (sc ≠ 2 → s 12 q = 0)) := by
          rcases hx1.2.2.2.2.2.2.2.2.2.1 q (by omega) with z | ⟨b, kd, con, sc, sz, kf, zf, z1, z2, z3⟩
          · rw [hq] at z; cases z.1
          · rw [hq] at z1
            cases z1
            obtain ⟨y1, nd, ka, la, y2, -⟩ := z2
            refine ⟨kd, nd, con, sc, y1, y2, ?_⟩
            have g3 := hI.sc q
            have h11 : s 11 q ≠ 0 → s 5 q = 3 ∧ s 7 q = 1 := hI.si2 (p := q)
            have h12 : s 12 q ≠ 0 → s 5 q = 3 ∧ s 7 q = 2 := fun h => ⟨(hI.re2 h).1, (hI.re2 h).2.1⟩
            have z5 : sc = (if s 5 q = 3 then s 7 q else 0) := by
              rcases z3 with z | z | z
              · rw [if_neg (by have := z.1; omega)]; exact z.2.2.2.1
              · rw [if_neg (by have := z.1; omega)]; exact z.2.2.1
              · rw [if_pos z.1]; exact z.2.2.1
            split at z5 <;> omega
        refine z_astore C d_X_close_36 (by decide) ?_
        refine z_aload C d_X_close_38 rfl ?_
        refine z_ifnull C d_X_close_40 ?_
        refine z_aload C d_X_close_43 rfl ?_
        refine z_getN C in_B (ha) rfl 4 (by decide) nl_88 rfl rfl d_X_close_45 ?_
        refine z_iconst C d_X_close_48 ?_
        refine z_icmp_ne C 58 (by omega) (by omega) d_X_close_49 (by decide) (fun h49 => ?_) (fun h49 => ?_)
        · refine z_iinc C d_X_close_58 rfl (by decide) ?_
          refine z_goto C 26 d_X_close_61 (by decide) ?_
          rw [← ck_keep (hsc.2.2.2 (by omega))] at hx1
          have j := ih (q + 1) σ1 (by omega) hx1 hF1 (some (.ref a))
          rw [show ((q + 1 : Nat) : Int) = (q : Int) + 1 from by omega] at j
          exact j
        · refine z_aload C d_X_close_52 rfl ?_
          refine z_iconst C d_X_close_54 ?_
          refine x_kept C hx1 (by omega) hq ha (by omega) rfl hOa d_X_close_55 (fun σ2 hx2 hF2 => ?_)
          rw [ck_drop (hsc.2.2.1 (by omega))] at hx2
          refine z_iinc C d_X_close_58 rfl (by decide) ?_
          refine z_goto C 26 d_X_close_61 (by decide) ?_
          have j := ih (q + 1) σ2 (by omega) hx2 (hF1.tr hF2) (some (.ref a))
          rw [show ((q + 1 : Nat) : Int) = (q : Int) + 1 from by omega] at j
          exact j
  refine z_aload_n C d_X_close_0 rfl ?_
  refine z_get C in_X (hX) rfl 8 (by decide) tw_fl_X_80 rfl rfl d_X_close_1 ?_
  refine z_if_ne C 9 (by omega) d_X_close_4 (by decide) (fun h4 => ?_) (fun h4 => ?_)
  · refine z_aload_n C d_X_close_9 rfl ?_
    refine z_iconst C d_X_close_10 ?_
    refine z_callV C hKl (cX_countKept 2 12 (Or.inr ⟨rfl, rfl⟩) hI hx) (zgood (fun _ h => h) tw_co_X_countKept) rfl (hX) rfl tw_ml_X_84 tw_im_X_countKept tw_se_X_countKept tw_in_X pd_X_countKept (by decide) rfl (Nat.le_of_ble_eq_true rfl) (by decide) d_X_close_11 (fun r σ hp => ?_)
    obtain ⟨rfl, rfl⟩ := hp
    refine z_istore_n C d_X_close_14 (by decide) ?_
    refine z_aload_n C d_X_close_15 rfl ?_
    refine z_get C in_X (hX) rfl 1 (by decide) tw_fl_X_19 rfl rfl d_X_close_16 ?_
    refine z_astore_n C d_X_close_19 (by decide) ?_
    refine z_aload_n C d_X_close_20 rfl ?_
    refine z_alen C 3 rfl h2 36 rfl d_X_close_21 ?_
    refine z_istore_n C d_X_close_22 (by decide) ?_
    refine z_iconst C d_X_close_23 ?_
    refine z_istore C d_X_close_24 (by decide) ?_
    exact loop (by omega) 36 0 _ (by omega) (by rw [ck_0]; exact hx) xF.rf none
  · refine z_iconst C d_X_close_7 ?_
    exact z_iret C d_X_close_8 (by decide) (by decide) (by rw [show sp_close s = (-1, s) from if_pos (by omega)]; exact ⟨rfl, xP.of hx xfr.rf⟩)
end XC8
