section MC2
variable {l : Launch} {D : va_G} {A : Nat → Prop} {cI cZ cJ cB : ClassId} {F : State → Prop} {m0 : Nat} {ad : Nat → Nat} {σ : zh} {s : St}
set_option maxRecDepth 100000 in
set_option maxHeartbeats 4000000 in
theorem cM_bind (i k w v : Int) (hF : zFok F A) (hI : Inv s) (hM : RM cI cZ cJ m0 ad s σ) (ri : -2147483648 ≤ i ∧ i ≤ 2147483647) (rk : -2147483648 ≤ k ∧ k ≤ 2147483647) (rw : -2147483648 ≤ w ∧ w ≤ 2147483647) (rv : -2147483648 ≤ v ∧ v ≤ 2147483647) : zM l D vwCl A (ztys cI cZ cJ cB) F y_M_bind ws_M_bind (zroom 1 0 0) [.ref m0, iv i, iv k, iv w, iv v] σ (fun r σ' => r = some (iv (sp_bind s i k w v).1) ∧ mR cI cZ cJ m0 ad σ (sp_bind s i k w v).2 σ') := by
  refine zMet2 hF (by decide) (Nat.le_of_ble_eq_true rfl) (fun K hKl C => ?_)
  have hM := mR.rf hM
  have hinj := hI.inj
  refine z_aload_n C d_M_bind_0 rfl ?_
  refine z_iload_n C d_M_bind_1 rfl ?_
  refine z_iload_n C d_M_bind_2 rfl ?_
  refine z_callV C hKl (cM_noPair i k hF hI hM.1 ri rk) (zgood (fun _ h => h) tw_co_M_noPair) rfl (hM.1.1) rfl tw_ml_M_88 tw_im_M_noPair tw_se_M_noPair tw_in_M pd_M_noPair (by decide) rfl (Nat.le_of_ble_eq_true rfl) (by decide) d_M_bind_3 (fun r σ' hp => ?_)
  obtain ⟨rfl, b, rfl, hb⟩ := hp
  refine z_if_ne C 23 (by omega) d_M_bind_6 (by decide) (fun h6 => ?_) (fun h6 => ?_)
  · refine z_iconst C d_M_bind_23 ?_
    exact z_iret C d_M_bind_24 (by decide) (by decide) (by rw [show sp_bind s i k w v = (-1, s) from if_pos (by omega)]; exact ⟨rfl, hM⟩)
  · have hpr : ((pr i k : Nat) : Int) = 12 * i + k := by unfold pr; omega
    have hkd := hI.kd (pr i k)
    refine z_aload_n C d_M_bind_9 rfl ?_
    refine m_get C hM in_M 5 (by decide) tw_fl_M_24 rfl rfl d_M_bind_10 ?_
    refine z_bipush C d_M_bind_13 (by decide) ?_
    refine z_iload_n C d_M_bind_15 rfl ?_
    refine z_imul C d_M_bind_16 ?_
    refine z_iload_n C d_M_bind_17 rfl ?_
    refine z_iadd C d_M_bind_18 ?_
    refine m_iald C hM 5 rfl (n := 36) (fun _ => rfl) (pr i k) (by omega) (by omega) (by decide) d_M_bind_19 ?_
    refine z_if_eq C 25 (by omega) d_M_bind_20 (by decide) (fun h20 => ?_) (fun h20 => ?_)
    · refine z_aload_n C d_M_bind_25 rfl ?_
      refine m_get C hM in_M 5 (by decide) tw_fl_M_24 rfl rfl d_M_bind_26 ?_
      refine z_bipush C d_M_bind_29 (by decide) ?_
      refine z_iload_n C d_M_bind_31 rfl ?_
      refine z_imul C d_M_bind_32 ?_
      refine z_iload_n C d_M_bind_33 rfl ?_
      refine z_iadd C d_M_bind_34 ?_
      refine z_iload_n C d_M_bind_35 rfl ?_
      refine m_iast C hM 5 rfl (n := 36) (fun _ => rfl) (pr i k) (by omega) (by omega) (by decide) d_M_bind_36 (fun σ hM => ?_)
      refine z_aload_n C d_M_bind_37 rfl ?_
      refine m_get C hM in_M 6 (by decide) tw_fl_M_27 rfl rfl d_M_bind_38 ?_
      refine z_bipush C d_M_bind_41 (by decide) ?_
      refine z_iload_n C d_M_bind_43 rfl ?_
      refine z_imul C d_M_bind_44 ?_
      refine z_iload_n C d_M_bind_45 rfl ?_
      refine z_iadd C d_M_bind_46 ?_
      refine z_iload C d_M_bind_47 rfl ?_
      refine m_iast C hM 6 rfl (n := 36) (fun _ => rfl) (pr i k) (by omega) (by omega) (by decide) d_M_bind_49 (fun σ hM => ?_)
      refine z_iconst C d_M_bind_50 ?_
      exact z_iret C d_M_bind_51 (by decide) (by decide) (by rw [show sp_bind s i k w v = (1, sup (sup s 5 (pr i k) w) 6 (pr i k) v) from if_neg (by omega)]; exact ⟨rfl, hM⟩)
    · refine z_iconst C d_M_bind_23 ?_
      exact z_iret C d_M_bind_24 (by decide) (by decide) (by rw [show sp_bind s i k w v = (-1, s) from if_pos (by omega)]; exact ⟨rfl, hM⟩)
set_option maxRecDepth 100000 in
set_option maxHeartbeats 4000000 in
theorem cM_bindConstant (i k v : Int) (hF : zFok F A) (hI : Inv s) (hM : RM cI cZ cJ m0 ad s σ) (ri : -2147483648 ≤ i ∧ i ≤ 2147483647) (rk : -2147483648 ≤ k ∧ k ≤ 2147483647) (rv : -2147483648 ≤ v ∧ v ≤ 2147483647) : zM l D vwCl A (ztys cI cZ cJ cB) F y_M_bindConstant ws_M_bindConstant (zroom 2 0 0) [.ref m0, iv i, iv k, iv v] σ (fun r σ' => r = some (iv (sp_bind s i k 1 v).1) ∧ mR cI cZ cJ m0 ad σ (sp_bind s i k 1 v).2 σ') := by
  refine zMet2 hF (by decide) (Nat.le_of_ble_eq_true rfl) (fun K hKl C => ?_)
  have hM := mR.rf hM
  refine z_aload_n C d_M_bindConstant_0 rfl ?_
  refine z_iload_n C d_M_bindConstant_1 rfl ?_
  refine z_iload_n C d_M_bindConstant_2 rfl ?_
  refine z_iconst C d_M_bindConstant_3 ?_
  refine z_iload_n C d_M_bindConstant_4 rfl ?_
  refine z_callV C hKl (cM_bind i k 1 v hF hI hM.1 ri rk (by omega) rv) (zgood (fun _ h => h) tw_co_M_bind) rfl (hM.1.1) rfl tw_ml_M_92 tw_im_M_bind tw_se_M_bind tw_in_M pd_M_bind (by decide) rfl (Nat.le_of_ble_eq_true rfl) (by decide) d_M_bindConstant_5 (fun r σ' hp => ?_)
  obtain ⟨rfl, hp⟩ := hp
  exact z_iret C d_M_bindConstant_8 (by decide) (by decide) (⟨rfl, hp⟩)
set_option maxRecDepth 100000 in
set_option maxHeartbeats 4000000 in
theorem cM_bindLink (i k t : Int) (hF : zFok F A) (hI : Inv s) (hM : RM cI cZ cJ m0 ad s σ) (ri : -2147483648 ≤ i ∧ i ≤ 2147483647) (rk : -2147483648 ≤ k ∧ k ≤ 2147483647) (rt : -2147483648 ≤ t ∧ t ≤ 2147483647) : zM l D vwCl A (ztys cI cZ cJ cB) F y_M_bindLink ws_M_bindLink (zroom 2 0 0) [.ref m0, iv i, iv k, iv t] σ (fun r σ' => r = some (iv (sp_bindLink s i k t).1) ∧ mR cI cZ cJ m0 ad σ (sp_bindLink s i k t).2 σ') := by
  refine zMet2 hF (by decide) (Nat.le_of_ble_eq_true rfl) (fun K hKl C => ?_)
  have hM := mR.rf hM
  refine z_iload_n C d_M_bindLink_0 rfl ?_
  refine z_if_lt C 10 (by omega) d_M_bindLink_1 (by decide) (fun h1 => ?_) (fun h1 => ?_)
  · refine z_iconst C d_M_bindLink_10 ?_
    refine z_goto C 22 d_M_bindLink_11 (by decide) ?_
    exact z_iret C d_M_bindLink_22 (by decide) (by decide) (by rw [show sp_bindLink s i k t = (-1, s) from if_pos (by omega)]; exact ⟨rfl, hM⟩)
  · refine z_iload_n C d_M_bindLink_4 rfl ?_
    refine z_bipush C d_M_bindLink_5 (by decide) ?_
    refine z_icmp_le C 14 (by omega) (by omega) d_M_bindLink_7 (by decide) (fun h7 => ?_) (fun h7 => ?_)
    · refine z_aload_n C d_M_bindLink_14 rfl ?_
      refine z_iload_n C d_M_bindLink_15 rfl ?_
      refine z_iload_n C d_M_bindLink_16 rfl ?_
      refine z_iconst C d_M_bindLink_17 ?_
      refine z_iload_n C d_M_bindLink_18 rfl ?_
      refine z_callV C hKl (cM_bind i k 2 t hF hI hM.1 ri rk (by omega) rt) (zgood (fun _ h => h) tw_co_M_bind) rfl (hM.1.1) rfl tw_ml_M_92 tw_im_M_bind tw_se_M_bind tw_in_M pd_M_bind (by decide) rfl (Nat.le_of_ble_eq_true rfl) (by decide) d_M_bindLink_19 (fun r σ' hp => ?_)
      obtain ⟨rfl, hp⟩ := hp
      exact z_iret C d_M_bindLink_22 (by decide) (by decide) (by rw [show sp_bindLink s i k t = sp_bind s i k 2 t from if_neg (by omega)]; exact ⟨rfl, hp⟩)
    · refine z_iconst C d_M_bindLink_10 ?_
      refine z_goto C 22 d_M_bindLink_11 (by decide) ?_
      exact z_iret C d_M_bindLink_22 (by decide) (by decide) (by rw [show sp_bindLink s i k t = (-1, s) from if_pos (by omega)]; exact ⟨rfl, hM⟩)
set_option maxRecDepth 100000 in
set_option maxHeartbeats 4000000 in
theorem cM_unbind (i k : Int) (hF : zFok F A) (hI : Inv s) (hM : RM cI cZ cJ m0 ad s σ) (ri : -2147483648 ≤ i ∧ i ≤ 2147483647) (rk : -2147483648 ≤ k ∧ k ≤ 2147483647) : zM l D vwCl A (ztys cI cZ cJ cB) F y_M_unbind ws_M_unbind (zroom 1 0 0) [.ref m0, iv i, iv k] σ (fun r σ' => r = some (iv (sp_unbind s i k).1) ∧ mR cI cZ cJ m0 ad σ (sp_unbind s i k).2 σ') := by
  refine zMet2 hF (by decide) (Nat.le_of_ble_eq_true rfl) (fun K hKl C => ?_)
  have hM := mR.rf hM
  have hinj := hI.inj
  refine z_aload_n C d_M_unbind_0 rfl ?_
  refine z_iload_n C d_M_unbind_1 rfl ?_
  refine z_iload_n C d_M_unbind_2 rfl ?_
  refine z_callV C hKl (cM_noPair i k hF hI hM.1 ri rk) (zgood (fun _ h => h) tw_co_M_noPair) rfl (hM.1.1) rfl tw_ml_M_88 tw_im_M_noPair tw_se_M_noPair tw_in_M pd_M_noPair (by decide) rfl (Nat.le_of_ble_eq_true rfl) (by decide) d_M_unbind_3 (fun r σ' hp => ?_)
  obtain ⟨rfl, b, rfl, hb⟩ := hp
  refine z_if_ne C 23 (by omega) d_M_unbind_6 (by decide) (fun h6 => ?_) (fun h6 => ?_)
  · refine z_iconst C d_M_unbind_23 ?_
    exact z_iret C d_M_unbind_24 (by decide) (by decide) (by rw [show sp_unbind s i k = (-1, s) from if_pos (by omega)]; exact ⟨rfl, hM⟩)
  · have hpr : ((pr i k : Nat) : Int) = 12 * i + k := by unfold pr; omega
    have hkd := hI.kd (pr i k)
    refine z_aload_n C d_M_unbind_9 rfl ?_
    refine m_get C hM in_M 5 (by decide) tw_fl_M_24 rfl rfl d_M_unbind_10 ?_
    refine z_bipush C d_M_unbind_13 (by decide) ?_
    refine z_iload_n C d_M_unbind_15 rfl ?_
    refine z_imul C d_M_unbind_16 ?_
    refine z_iload_n C d_M_unbind_17 rfl ?_
    refine z_iadd C d_M_unbind_18 ?_
    refine m_iald C hM 5 rfl (n := 36) (fun _ => rfl) (pr i k) (by omega) (by omega) (by decide) d_M_unbind_19 ?_
    refine z_if_ne C 25 (by omega) d_M_unbind_20 (by decide) (fun h20 => ?_) (fun h20 => ?_)
    · refine z_bipush C d_M_unbind_25 (by decide) ?_
      refine z_iload_n C d_M_unbind_27 rfl ?_
      refine z_imul C d_M_unbind_28 ?_
      refine z_iload_n C d_M_unbind_29 rfl ?_
      refine z_iadd C d_M_unbind_30 ?_
      refine z_istore_n C d_M_unbind_31 (by decide) ?_
      refine z_aload_n C d_M_unbind_32 rfl ?_
      refine m_get C hM in_M 5 (by decide) tw_fl_M_24 rfl rfl d_M_unbind_33 ?_
      refine z_iload_n C d_M_unbind_36 rfl ?_
      refine z_iconst C d_M_unbind_37 ?_
      refine m_iast C hM 5 rfl (n := 36) (fun _ => rfl) (pr i k) (by omega) (by omega) (by decide) d_M_unbind_38 (fun σ hM => ?_)
      refine z_aload_n C d_M_unbind_39 rfl ?_
      refine m_get C hM in_M 11 (by decide) tw_fl_M_42 rfl rfl d_M_unbind_40 ?_
      refine z_iload_n C d_M_unbind_43 rfl ?_
      refine z_iconst C d_M_unbind_44 ?_
      refine m_iast C hM 11 rfl (n := 36) (fun _ => rfl) (pr i k) (by omega) (by omega) (by decide) d_M_unbind_45 (fun σ hM => ?_)
      refine z_aload_n C d_M_unbind_46 rfl ?_
      refine m_get C hM in_M 12 (by decide) tw_fl_M_45 rfl rfl d_M_unbind_47 ?_
      refine z_iload_n C d_M_unbind_50 rfl ?_
      refine z_iconst C d_M_unbind_51 ?_
      refine m_iast C hM 12 rfl (n := 36) (fun _ => rfl) (pr i k) (by omega) (by omega) (by decide) d_M_unbind_52 (fun σ hM => ?_)
      refine z_iconst C d_M_unbind_53 ?_
      exact z_iret C d_M_unbind_54 (by decide) (by decide) (by rw [show sp_unbind s i k = (1, sup (sup (sup s 5 (pr i k) 0) 11 (pr i k) 0) 12 (pr i k) 0) from if_neg (by omega)]; exact ⟨rfl, hM⟩)
    · refine z_iconst C d_M_unbind_23 ?_
      exact z_iret C d_M_unbind_24 (by decide) (by decide) (by rw [show sp_unbind s i k = (-1, s) from if_pos (by omega)]; exact ⟨rfl, hM⟩)
set_option maxRecDepth 100000 in
set_option maxHeartbeats 4000000 in
theorem cM_close  (hF : zFok F A) (hI : Inv s) (hM : RM cI cZ cJ m0 ad s σ)  : zM l D vwCl A (ztys cI cZ cJ cB) F y_M_close ws_M_close (zroom 1 0 0) [.ref m0] σ (fun r σ' => r = some (iv (sp_close s).1) ∧ mR cI cZ cJ m0 ad σ (sp_close s).2 σ') := by
  refine zMet2 hF (by decide) (Nat.le_of_ble_eq_true rfl) (fun K hKl C => ?_)
  have hM := mR.rf hM
  have hop := hI.op
  have hcn := cntz_r (s 12) 36
  have loop : s 15 0 = 1 → ∀ (n k : Nat), k + n = 36 → ∀ σ1 : zh, mR cI cZ cJ m0 ad σ (srow (sup s 15 0 0) 12 (zer (s 12) k)) σ1 → zJ K D vwCl A 3 (zQ K D vwCl A (fun r σ' => r = some (iv (sp_close s).1) ∧ mR cI cZ cJ m0 ad σ (sp_close s).2 σ') 0 0) 0 0 σ1 24 [some (.ref m0), some (iv (cntz (s 12) 36)), some (iv (k : Int))] [] := by
    intro ho n
    induction n with
    | zero =>
      intro k hk σ1 hM
      have e : k = 36 := by omega
      subst e
      refine z_iload_n C d_M_close_24 rfl ?_
      refine z_bipush C d_M_close_25 (by decide) ?_
      refine z_icmp_ge C 43 (by omega) (by omega) d_M_close_27 (by decide) (fun h27 => ?_) (fun h27 => absurd h27 (by omega))
      refine z_iload_n C d_M_close_43 rfl ?_
      exact z_iret C d_M_close_44 (by decide) (by decide) (by rw [show sp_close s = (cntz (s 12) 36, srow (sup s 15 0 0) 12 (zer (s 12) 36)) from if_neg (by omega)]; exact ⟨rfl, hM⟩)
    | succ n ih =>
      intro k hk σ1 hM
      refine z_iload_n C d_M_close_24 rfl ?_
      refine z_bipush C d_M_close_25 (by decide) ?_
      refine z_icmp_ge C 43 (by omega) (by omega) d_M_close_27 (by decide) (fun h27 => absurd h27 (by omega)) (fun h27 => ?_)
      refine z_aload_n C d_M_close_30 rfl ?_
      refine m_get C hM in_M 12 (by decide) tw_fl_M_45 rfl rfl d_M_close_31 ?_
      refine z_iload_n C d_M_close_34 rfl ?_
      refine z_iconst C d_M_close_35 ?_
      refine m_iast C hM 12 rfl (n := 36) (fun _ => rfl) (k) (by omega) (by omega) (by decide) d_M_close_36 (fun σ hM => ?_)
      have e : sup (srow (sup s 15 0 0) 12 (zer (s 12) k)) 12 k 0 = srow (sup s 15 0 0) 12 (zer (s 12) (k + 1)) := by
        rw [sup_srow, srow_s, zer_1, srow_srow]
      rw [e] at hM
      refine z_iinc C d_M_close_37 rfl (by decide) ?_
      refine z_goto C 24 d_M_close_40 (by decide) ?_
      exact ih (k + 1) (by omega) σ hM
  refine z_aload_n C d_M_close_0 rfl ?_
  refine m_get C hM in_M 15 (by decide) tw_fl_M_100 rfl rfl d_M_close_1 ?_
  refine z_if_ne C 9 (by omega) d_M_close_4 (by decide) (fun h4 => ?_) (fun h4 => ?_)
  · refine z_aload_n C d_M_close_9 rfl ?_
    refine m_get C hM in_M 12 (by decide) tw_fl_M_45 rfl rfl d_M_close_10 ?_
    refine z_callS C hKl (cM_filled (a := ad 12) (f := s 12) hF (fun j => by have := hI.re j; have := hI.md; omega) (hM.1.2.1 12 rfl)) (zgood (fun _ h => h) tw_co_M_filled) rfl tw_ml_M_104 tw_st_M_filled tw_in_M pd_M_filled (by decide) rfl (Nat.le_of_ble_eq_true rfl) (by decide) d_M_close_13 (fun r σ' hp => ?_)
    obtain ⟨rfl, rfl⟩ := hp
    refine z_istore_n C d_M_close_16 (by decide) ?_
    refine z_aload_n C d_M_close_17 rfl ?_
    refine z_iconst C d_M_close_18 ?_
    refine m_put C hM in_M 15 (by decide) rfl tw_fl_M_100 rfl rfl (tk_M 15 (by decide)) (znarz (Or.inl rfl)) (zfitz (Or.inl rfl)) rfl d_M_close_19 (fun σ hM => ?_)
    refine z_iconst C d_M_close_22 ?_
    refine z_istore_n C d_M_close_23 (by decide) ?_
    exact loop (by omega) 36 0 (by omega) σ (by rw [zer_00]; exact hM)
  · refine z_iconst C d_M_close_7 ?_
    exact z_iret C d_M_close_8 (by decide) (by decide) (by rw [show sp_close s = (-1, s) from if_pos (by omega)]; exact ⟨rfl, hM⟩)
set_option maxRecDepth 100000 in
set_option maxHeartbeats 4000000 in
theorem cM_keepCopies  (hF : zFok F A) (hM : RM cI cZ cJ m0 ad s σ)  : zM l D vwCl A (ztys cI cZ cJ cB) F y_M_keepCopies ws_M_keepCopies (zroom 0 0 0) [.ref m0] σ (fun r σ' => r = none ∧ mR cI cZ cJ m0 ad σ (kcp s 36) σ') := by
  refine zMet2 hF (by decide) (Nat.le_of_ble_eq_true rfl) (fun K hKl C => ?_)
  have hM := mR.rf hM
  have loop : ∀ (n k : Nat), k + n = 36 → ∀ σ1 : zh, mR cI cZ cJ m0 ad σ (kcp s k) σ1 → zJ K D vwCl A 2 (zQ K D vwCl A (fun r σ' => r = none ∧ mR cI cZ cJ m0 ad σ (kcp s 36) σ') 0 0) 0 0 σ1 2 [some (.ref m0), some (iv (k : Int))] [] := by
    intro n
    induction n with
    | zero =>
      intro k hk σ1 hM
      have e : k = 36 := by omega
      subst e
      refine z_iload_n C d_M_keepCopies_2 rfl ?_
      refine z_bipush C d_M_keepCopies_3 (by decide) ?_
      refine z_icmp_ge C 38 (by omega) (by omega) d_M_keepCopies_5 (by decide) (fun h5 => ?_) (fun h5 => absurd h5 (by omega))
      exact z_vret C d_M_keepCopies_38 (by decide) (by decide) (⟨rfl, hM⟩)
    | succ n ih =>
      intro k hk σ1 hM
      refine z_iload_n C d_M_keepCopies_2 rfl ?_
      refine z_bipush C d_M_keepCopies_3 (by decide) ?_
      refine z_icmp_ge C 38 (by omega) (by omega) d_M_keepCopies_5 (by decide) (fun h5 => absurd h5 (by omega)) (fun h5 => ?_)
      refine z_aload_n C d_M_keepCopies_8 rfl ?_
      refine m_get C hM in_M 13 (by decide) tw_fl_M_48 rfl rfl d_M_keepCopies_9 ?_
      refine z_iload_n C d_M_keepCopies_12 rfl ?_
      refine z_aload_n C d_M_keepCopies_13 rfl ?_
      refine m_get C hM in_M 11 (by decide) tw_fl_M_42 rfl rfl d_M_keepCopies_14 ?_
      refine z_iload_n C d_M_keepCopies_17 rfl ?_
      refine m_iald C hM 11 rfl (n := 36) (fun _ => rfl) (k) (by omega) (by omega) (by decide) d_M_keepCopies_18 ?_
      refine z_top (w := iv (s 11 k)) rfl ?_
      refine m_iast C hM 13 rfl (n := 36) (fun _ => rfl) (k) (by omega) (by omega) (by decide) d_M_keepCopies_19 (fun σ hM => ?_)
      refine z_aload_n C d_M_keepCopies_20 rfl ?_
      refine m_get C hM in_M 14 (by decide) tw_fl_M_51 rfl rfl d_M_keepCopies_21 ?_
      refine z_iload_n C d_M_keepCopies_24 rfl ?_
      refine z_aload_n C d_M_keepCopies_25 rfl ?_
      refine m_get C hM in_M 12 (by decide) tw_fl_M_45 rfl rfl d_M_keepCopies_26 ?_
      refine z_iload_n C d_M_keepCopies_29 rfl ?_
      refine m_iald C hM 12 rfl (n := 36) (fun _ => rfl) (k) (by omega) (by omega) (by decide) d_M_keepCopies_30 ?_
      refine z_top (w := iv (s 12 k)) rfl ?_
      refine m_iast C hM 14 rfl (n := 36) (fun _ => rfl) (k) (by omega) (by omega) (by decide) d_M_keepCopies_31 (fun σ hM => ?_)
      rw [kcp_1] at hM
      refine z_iinc C d_M_keepCopies_32 rfl (by decide) ?_
      refine z_goto C 2 d_M_keepCopies_35 (by decide) ?_
      exact ih (k + 1) (by omega) σ hM
  refine z_iconst C d_M_keepCopies_0 ?_
  refine z_istore_n C d_M_keepCopies_1 (by decide) ?_
  exact loop 36 0 (by omega) σ (by rw [kcp_0]; exact hM)
set_option maxRecDepth 100000 in
set_option maxHeartbeats 4000000 in
theorem cM_takeBack (m : Int) (hF : zFok F A) (hM : RM cI cZ cJ m0 ad s σ)  : zM l D vwCl A (ztys cI cZ cJ cB) F y_M_takeBack ws_M_takeBack (zroom 0 0 0) [.ref m0, iv m] σ (fun r σ' => r = none ∧ mR cI cZ cJ m0 ad σ (tbk s m 36) σ') := by
  refine zMet2 hF (by decide) (Nat.le_of_ble_eq_true rfl) (fun K hKl C => ?_)
  have hM := mR.rf hM
  have loop : ∀ (n k : Nat), k + n = 36 → ∀ σ1 : zh, mR cI cZ cJ m0 ad σ (tbk s m k) σ1 → zJ K D vwCl A 3 (zQ K D vwCl A (fun r σ' => r = none ∧ mR cI cZ cJ m0 ad σ (tbk s m 36) σ') 0 0) 0 0 σ1 7 [some (.ref m0), some (iv m), some (iv (k : Int))] [] := by
    intro n
    induction n with
    | zero =>
      intro k hk σ1 hM
      have e : k = 36 := by omega
      subst e
      refine z_iload_n C d_M_takeBack_7 rfl ?_
      refine z_bipush C d_M_takeBack_8 (by decide) ?_
      refine z_icmp_ge C 43 (by omega) (by omega) d_M_takeBack_10 (by decide) (fun h10 => ?_) (fun h10 => absurd h10 (by omega))
      exact z_vret C d_M_takeBack_43 (by decide) (by decide) (⟨rfl, hM⟩)
    | succ n ih =>
      intro k hk σ1 hM
      refine z_iload_n C d_M_takeBack_7 rfl ?_
      refine z_bipush C d_M_takeBack_8 (by decide) ?_
      refine z_icmp_ge C 43 (by omega) (by omega) d_M_takeBack_10 (by decide) (fun h10 => absurd h10 (by omega)) (fun h10 => ?_)
      refine z_aload_n C d_M_takeBack_13 rfl ?_
      refine m_get C hM in_M 11 (by decide) tw_fl_M_42 rfl rfl d_M_takeBack_14 ?_
      refine z_iload_n C d_M_takeBack_17 rfl ?_
      refine z_aload_n C d_M_takeBack_18 rfl ?_
      refine m_get C hM in_M 13 (by decide) tw_fl_M_48 rfl rfl d_M_takeBack_19 ?_
      refine z_iload_n C d_M_takeBack_22 rfl ?_
      refine m_iald C hM 13 rfl (n := 36) (fun _ => rfl) (k) (by omega) (by omega) (by decide) d_M_takeBack_23 ?_
      refine z_top (w := iv (s 13 k)) rfl ?_
      refine m_iast C hM 11 rfl (n := 36) (fun _ => rfl) (k) (by omega) (by omega) (by decide) d_M_takeBack_24 (fun σ hM => ?_)
      refine z_aload_n C d_M_takeBack_25 rfl ?_
      refine m_get C hM in_M 12 (by decide) tw_fl_M_45 rfl rfl d_M_takeBack_26 ?_
      refine z_iload_n C d_M_takeBack_29 rfl ?_
      refine z_aload_n C d_M_takeBack_30 rfl ?_
      refine m_get C hM in_M 14 (by decide) tw_fl_M_51 rfl rfl d_M_takeBack_31 ?_
      refine z_iload_n C d_M_takeBack_34 rfl ?_
      refine m_iald C hM 14 rfl (n := 36) (fun _ => rfl) (k) (by omega) (by omega) (by decide) d_M_takeBack_35 ?_
      refine z_top (w := iv (s 14 k)) rfl ?_
      refine m_iast C hM 12 rfl (n := 36) (fun _ => rfl) (k) (by omega) (by omega) (by decide) d_M_takeBack_36 (fun σ hM => ?_)
      rw [tbk_1] at hM
      refine z_iinc C d_M_takeBack_37 rfl (by decide) ?_
      refine z_goto C 7 d_M_takeBack_40 (by decide) ?_
      exact ih (k + 1) (by omega) σ hM
  refine z_aload_n C d_M_takeBack_0 rfl ?_
  refine z_iload_n C d_M_takeBack_1 rfl ?_
  refine m_put C hM in_M 23 (by decide) rfl tw_fl_M_129 rfl rfl (tk_M 23 (by decide)) rfl rfl rfl d_M_takeBack_2 (fun σ hM => ?_)
  refine z_iconst C d_M_takeBack_5 ?_
  refine z_istore_n C d_M_takeBack_6 (by decide) ?_
  exact loop 36 0 (by omega) σ (by rw [tbk_0]; exact hM)
set_option maxRecDepth 100000 in
set_option maxHeartbeats 4000000 in
theorem cM_noNeed (i n : Int) (hF : zFok F A) (hI : Inv s) (hM : RM cI cZ cJ m0 ad s σ) (ri : -2147483648 ≤ i ∧ i ≤ 2147483647) (rn : -2147483648 ≤ n ∧ n ≤ 2147483647) : zM l D vwCl A (ztys cI cZ cJ cB) F y_M_noNeed ws_M_noNeed (zroom 0 0 0) [.ref m0, iv i, iv n] σ (fun r σ' => σ' = σ ∧ ∃ b : Int, r = some (iv b) ∧ ((b = 1 ∧ (i < 0 ∨ s 23 0 ≤ i ∨ n < 0 ∨ s 19 i.toNat ≤ n)) ∨ (b = 0 ∧ 0 ≤ i ∧ i < s 23 0 ∧ 0 ≤ n ∧ n < s 19 i.toNat))) := by
  refine zMet2 hF (by decide) (Nat.le_of_ble_eq_true rfl) (fun K hKl C => ?_)
  have hM := mR.rf hM
  have hmd := hI.md
  have hin := hI.inn i.toNat
  refine z_iload_n C d_M_noNeed_0 rfl ?_
  refine z_if_lt C 26 (by omega) d_M_noNeed_1 (by decide) (fun h1 => ?_) (fun h1 => ?_)
  · refine z_iconst C d_M_noNeed_26 ?_
    refine z_goto C 31 d_M_noNeed_27 (by decide) ?_
    exact z_zret C d_M_noNeed_31 (by decide) (by decide) (by omega) (⟨rfl, _, rfl, by omega⟩)
  · refine z_iload_n C d_M_noNeed_4 rfl ?_
    refine z_aload_n C d_M_noNeed_5 rfl ?_
    refine m_get C hM in_M 23 (by decide) tw_fl_M_129 rfl rfl d_M_noNeed_6 ?_
    refine z_icmp_ge C 26 (by omega) (by omega) d_M_noNeed_9 (by decide) (fun h9 => ?_) (fun h9 => ?_)
    · refine z_iconst C d_M_noNeed_26 ?_
      refine z_goto C 31 d_M_noNeed_27 (by decide) ?_
      exact z_zret C d_M_noNeed_31 (by decide) (by decide) (by omega) (⟨rfl, _, rfl, by omega⟩)
    · refine z_iload_n C d_M_noNeed_12 rfl ?_
      refine z_if_lt C 26 (by omega) d_M_noNeed_13 (by decide) (fun h13 => ?_) (fun h13 => ?_)
      · refine z_iconst C d_M_noNeed_26 ?_
        refine z_goto C 31 d_M_noNeed_27 (by decide) ?_
        exact z_zret C d_M_noNeed_31 (by decide) (by decide) (by omega) (⟨rfl, _, rfl, by omega⟩)
      · refine z_iload_n C d_M_noNeed_16 rfl ?_
        refine z_aload_n C d_M_noNeed_17 rfl ?_
        refine m_get C hM in_M 19 (by decide) tw_fl_M_63 rfl rfl d_M_noNeed_18 ?_
        refine z_iload_n C d_M_noNeed_21 rfl ?_
        refine m_iald C hM 19 rfl (n := 100) (fun _ => rfl) (i.toNat) (by omega) (by omega) (by decide) d_M_noNeed_22 ?_
        refine z_icmp_lt C 30 (by omega) (by omega) d_M_noNeed_23 (by decide) (fun h23 => ?_) (fun h23 => ?_)
        · refine z_iconst C d_M_noNeed_30 ?_
          exact z_zret C d_M_noNeed_31 (by decide) (by decide) (by omega) (⟨rfl, _, rfl, by omega⟩)
        · refine z_iconst C d_M_noNeed_26 ?_
          refine z_goto C 31 d_M_noNeed_27 (by decide) ?_
          exact z_zret C d_M_noNeed_31 (by decide) (by decide) (by omega) (⟨rfl, _, rfl, by omega⟩)
set_option maxRecDepth 100000 in
set_option maxHeartbeats 4000000 in
theorem cM_held (i n : Int) (hF : zFok F A) (hI : Inv s) (hM : RM cI cZ cJ m0 ad s σ) (ri : -2147483648 ≤ i ∧ i ≤ 2147483647) (rn : -2147483648 ≤ n ∧ n ≤ 2147483647) : zM l D vwCl A (ztys cI cZ cJ cB) F y_M_held ws_M_held (zroom 1 0 0) [.ref m0, iv i, iv n] σ (fun r σ' => σ' = σ ∧ r = some (jv (sp_held s i n))) := by
  refine zMet2 hF (by decide) (Nat.le_of_ble_eq_true rfl) (fun K hKl C => ?_)
  have hM := mR.rf hM
  have hmd := hI.md
  have hin := hI.inn i.toNat
  refine z_aload_n C d_M_held_0 rfl ?_
  refine z_iload_n C d_M_held_1 rfl ?_
  refine z_iload_n C d_M_held_2 rfl ?_
  refine z_callV C hKl (cM_noNeed i n hF hI hM.1 ri rn) (zgood (fun _ h => h) tw_co_M_noNeed) rfl (hM.1.1) rfl tw_ml_M_164 tw_im_M_noNeed tw_se_M_noNeed tw_in_M pd_M_noNeed (by decide) rfl (Nat.le_of_ble_eq_true rfl) (by decide) d_M_held_3 (fun r σ' hp => ?_)
  obtain ⟨rfl, b, rfl, hb⟩ := hp
  refine z_if_eq C 15 (by omega) d_M_held_6 (by decide) (fun h6 => ?_) (fun h6 => ?_)
  · refine z_aload_n C d_M_held_15 rfl ?_
    refine m_get C hM in_M 22 (by decide) tw_fl_M_72 rfl rfl d_M_held_16 ?_
    refine z_iconst C d_M_held_19 ?_
    refine z_iload_n C d_M_held_20 rfl ?_
    refine z_imul C d_M_held_21 ?_
    refine z_iload_n C d_M_held_22 rfl ?_
    refine z_iadd C d_M_held_23 ?_
    refine m_lald C hM 22 rfl (n := 400) (fun _ => rfl) (4 * i.toNat + n.toNat) (by omega) (by omega) (by decide) d_M_held_24 ?_
    exact z_lret C d_M_held_25 (by decide) (by decide) (by rw [show sp_held s i n = s 22 (4 * i.toNat + n.toNat) from if_neg (by omega)]; exact ⟨rfl, rfl⟩)
  · refine z_ldc2 C (-1) tw_kl_M_152 d_M_held_9 ?_
    refine z_goto C 25 d_M_held_12 (by decide) ?_
    exact z_lret C d_M_held_25 (by decide) (by decide) (by rw [show sp_held s i n = -1 from if_pos (by omega)]; exact ⟨rfl, rfl⟩)
set_option maxRecDepth 100000 in
set_option maxHeartbeats 4000000 in
theorem cM_about (i w : Int) (hF : zFok F A) (hI : Inv s) (hM : RM cI cZ cJ m0 ad s σ) (ri : -2147483648 ≤ i ∧ i ≤ 2147483647) (rw : -2147483648 ≤ w ∧ w ≤ 2147483647) : zM l D vwCl A (ztys cI cZ cJ cB) F y_M_about ws_M_about (zroom 0 0 0) [.ref m0, iv i, iv w] σ (fun r σ' => σ' = σ ∧ r = some (iv (sp_about s i w))) := by
  refine zMet2 hF (by decide) (Nat.le_of_ble_eq_true rfl) (fun K hKl C => ?_)
  have hM := mR.rf hM
  have hmd := hI.md
  refine z_iload_n C d_M_about_0 rfl ?_
  refine z_if_lt C 21 (by omega) d_M_about_1 (by decide) (fun h1 => ?_) (fun h1 => ?_)
  · refine z_iconst C d_M_about_21 ?_
    exact z_iret C d_M_about_22 (by decide) (by decide) (by rw [show sp_about s i w = -1 from if_pos (by omega)]; exact ⟨rfl, rfl⟩)
  · refine z_iload_n C d_M_about_4 rfl ?_
    refine z_aload_n C d_M_about_5 rfl ?_
    refine m_get C hM in_M 23 (by decide) tw_fl_M_129 rfl rfl d_M_about_6 ?_
    refine z_icmp_ge C 21 (by omega) (by omega) d_M_about_9 (by decide) (fun h9 => ?_) (fun h9 => ?_)
    · refine z_iconst C d_M_about_21 ?_
      exact z_iret C d_M_about_22 (by decide) (by decide) (by rw [show sp_about s i w = -1 from if_pos (by omega)]; exact ⟨rfl, rfl⟩)
    · refine z_iload_n C d_M_about_12 rfl ?_
      refine z_if_lt C 21 (by omega) d_M_about_13 (by decide) (fun h13 => ?_) (fun h13 => ?_)
      · refine z_iconst C d_M_about_21 ?_
        exact z_iret C d_M_about_22 (by decide) (by decide) (by unfold sp_about; rw [if_neg (by omega), if_neg (by omega), if_neg (by omega), if_neg (by omega), if_neg (by omega)]; exact ⟨rfl, rfl⟩)
      · refine z_iload_n C d_M_about_16 rfl ?_
        refine z_iconst C d_M_about_17 ?_
        refine z_icmp_le C 23 (by omega) (by omega) d_M_about_18 (by decide) (fun h18 => ?_) (fun h18 => ?_)
        · refine z_iload_n C d_M_about_23 rfl ?_
          refine z_if_ne C 36 (by omega) d_M_about_24 (by decide) (fun h24 => ?_) (fun h24 => ?_)
          · refine z_iload_n C d_M_about_36 rfl ?_
            refine z_iconst C d_M_about_37 ?_
            refine z_icmp_ne C 50 (by omega) (by omega) d_M_about_38 (by decide) (fun h38 => ?_) (fun h38 => ?_)
            · refine z_iload_n C d_M_about_50 rfl ?_
              refine z_iconst C d_M_about_51 ?_
              refine z_icmp_ne C 64 (by omega) (by omega) d_M_about_52 (by decide) (fun h52 => ?_) (fun h52 => ?_)
              · refine z_aload_n C d_M_about_64 rfl ?_
                refine m_get C hM in_M 18 (by decide) tw_fl_M_60 rfl rfl d_M_about_65 ?_
                refine z_iload_n C d_M_about_68 rfl ?_
                refine m_iald C hM 18 rfl (n := 100) (fun _ => rfl) (i.toNat) (by omega) (by omega) (by decide) d_M_about_69 ?_
                exact z_iret C d_M_about_70 (by decide) (by decide) (by unfold sp_about; rw [if_neg (by omega), if_neg (by omega), if_neg (by omega), if_neg (by omega), if_pos (by omega)]; exact ⟨rfl, rfl⟩)
              · refine z_aload_n C d_M_about_55 rfl ?_
                refine m_get C hM in_M 19 (by decide) tw_fl_M_63 rfl rfl d_M_about_56 ?_
                refine z_iload_n C d_M_about_59 rfl ?_
                refine m_iald C hM 19 rfl (n := 100) (fun _ => rfl) (i.toNat) (by omega) (by omega) (by decide) d_M_about_60 ?_
                refine z_goto C 70 d_M_about_61 (by decide) ?_
                exact z_iret C d_M_about_70 (by decide) (by decide) (by unfold sp_about; rw [if_neg (by omega), if_neg (by omega), if_neg (by omega), if_pos (by omega)]; exact ⟨rfl, rfl⟩)
            · refine z_aload_n C d_M_about_41 rfl ?_
              refine m_get C hM in_M 17 (by decide) tw_fl_M_57 rfl rfl d_M_about_42 ?_
              refine z_iload_n C d_M_about_45 rfl ?_
              refine m_iald C hM 17 rfl (n := 100) (fun _ => rfl) (i.toNat) (by omega) (by omega) (by decide) d_M_about_46 ?_
              refine z_goto C 70 d_M_about_47 (by decide) ?_
              exact z_iret C d_M_about_70 (by decide) (by decide) (by unfold sp_about; rw [if_neg (by omega), if_neg (by omega), if_pos (by omega)]; exact ⟨rfl, rfl⟩)
          · refine z_aload_n C d_M_about_27 rfl ?_
            refine m_get C hM in_M 16 (by decide) tw_fl_M_54 rfl rfl d_M_about_28 ?_
            refine z_iload_n C d_M_about_31 rfl ?_
            refine m_iald C hM 16 rfl (n := 100) (fun _ => rfl) (i.toNat) (by omega) (by omega) (by decide) d_M_about_32 ?_
            refine z_goto C 70 d_M_about_33 (by decide) ?_
            exact z_iret C d_M_about_70 (by decide) (by decide) (by unfold sp_about; rw [if_neg (by omega), if_pos (by omega)]; exact ⟨rfl, rfl⟩)
        · refine z_iconst C d_M_about_21 ?_
          exact z_iret C d_M_about_22 (by decide) (by decide) (by unfold sp_about; rw [if_neg (by omega), if_neg (by omega), if_neg (by omega), if_neg (by omega), if_neg (by omega)]; exact ⟨rfl, rfl⟩)
set_option maxRecDepth 100000 in
set_option maxHeartbeats 4000000 in
theorem cM_home (i k : Int) (hF : zFok F A) (hI : Inv s) (hM : RM cI cZ cJ m0 ad s σ) (ri : -2147483648 ≤ i ∧ i ≤ 2147483647) (rk : -2147483648 ≤ k ∧ k ≤ 2147483647) : zM l D vwCl A (ztys cI cZ cJ cB) F y_M_home ws_M_home (zroom 1 0 0) [.ref m0, iv i, iv k] σ (fun r σ' => σ' = σ ∧ r = some (iv (sp_home s i k))) := by
  refine zMet2 hF (by decide) (Nat.le_of_ble_eq_true rfl) (fun K hKl C => ?_)
  have hM := mR.rf hM
  have hinj := hI.inj
  refine z_aload_n C d_M_home_0 rfl ?_
  refine z_iload_n C d_M_home_1 rfl ?_
  refine z_iload_n C d_M_home_2 rfl ?_
  refine z_callV C hKl (cM_noPair i k hF hI hM.1 ri rk) (zgood (fun _ h => h) tw_co_M_noPair) rfl (hM.1.1) rfl tw_ml_M_88 tw_im_M_noPair tw_se_M_noPair tw_in_M pd_M_noPair (by decide) rfl (Nat.le_of_ble_eq_true rfl) (by decide) d_M_home_3 (fun r σ' hp => ?_)
  obtain ⟨rfl, b, rfl, hb⟩ := hp
  refine z_if_eq C 11 (by omega) d_M_home_6 (by decide) (fun h6 => ?_) (fun h6 => ?_)
  · obtain ⟨x, rfl⟩ := Int.eq_ofNat_of_zero_le (show 0 ≤ i by omega)
    obtain ⟨y, rfl⟩ := Int.eq_ofNat_of_zero_le (show 0 ≤ k by omega)
    have hsn := sn_r hI (i := x) (k := y) (by omega) (by omega)
    have e1 : sp_home s x y = if sn s x y < 0 then 3 else sn s x y / 12 := if_neg (by omega)
    refine z_aload_n C d_M_home_11 rfl ?_
    refine z_iload_n C d_M_home_12 rfl ?_
    refine z_iload_n C d_M_home_13 rfl ?_
    refine z_callV C hKl (cM_seen x y hF hI hM.1 (by omega) (by omega)) (zgood (fun _ h => h) tw_co_M_seen) rfl (hM.1.1) rfl tw_ml_M_111 tw_im_M_seen tw_se_M_seen tw_in_M pd_M_seen (by decide) rfl (Nat.le_of_ble_eq_true rfl) (by decide) d_M_home_14 (fun r σ' hp => ?_)
    obtain ⟨rfl, rfl⟩ := hp
    refine z_istore_n C d_M_home_17 (by decide) ?_
    refine z_iload_n C d_M_home_18 rfl ?_
    refine z_if_ge C 26 (by omega) d_M_home_19 (by decide) (fun h19 => ?_) (fun h19 => ?_)
    · refine z_iload_n C d_M_home_26 rfl ?_
      refine z_bipush C d_M_home_27 (by decide) ?_
      refine z_idiv C (by omega) (by omega) d_M_home_29 ?_
      exact z_iret C d_M_home_30 (by decide) (by decide) (by rw [e1, if_neg (by omega)]; exact ⟨rfl, rfl⟩)
    · refine z_iconst C d_M_home_22 ?_
      refine z_goto C 30 d_M_home_23 (by decide) ?_
      exact z_iret C d_M_home_30 (by decide) (by decide) (by rw [e1, if_pos (by omega)]; exact ⟨rfl, rfl⟩)
  · refine z_iconst C d_M_home_9 ?_
    exact z_iret C d_M_home_10 (by decide) (by decide) (by rw [show sp_home s i k = -1 from if_pos (by omega)]; exact ⟨rfl, rfl⟩)
set_option maxRecDepth 100000 in
set_option maxHeartbeats 4000000 in
theorem cM_count (w : Int) (hF : zFok F A) (hI : Inv s) (hM : RM cI cZ cJ m0 ad s σ) (rw : -2147483648 ≤ w ∧ w ≤ 2147483647) : zM l D vwCl A (ztys cI cZ cJ cB) F y_M_count ws_M_count (zroom 1 0 0) [.ref m0, iv w] σ (fun r σ' => σ' = σ ∧ r = some (iv (sp_count s w))) := by
  refine zMet2 hF (by decide) (Nat.le_of_ble_eq_true rfl) (fun K hKl C => ?_)
  have hM := mR.rf hM
  have hop := hI.op
  refine z_iload_n C d_M_count_0 rfl ?_
  by_cases c0 : w = 0
  · subst c0
    refine z_tableIn C 40 (by omega) d_M_count_1 (by omega) (by omega) (off := 39) (by decide) (by decide) ?_
    refine z_aload_n C d_M_count_40 rfl ?_
    refine m_get C hM in_M 1 (by decide) tw_fl_M_13 rfl rfl d_M_count_41 ?_
    exact z_iret C d_M_count_44 (by decide) (by decide) (⟨rfl, rfl⟩)
  by_cases c1 : w = 1
  · subst c1
    refine z_tableIn C 45 (by omega) d_M_count_1 (by omega) (by omega) (off := 44) (by decide) (by decide) ?_
    refine z_aload_n C d_M_count_45 rfl ?_
    refine m_get C hM in_M 23 (by decide) tw_fl_M_129 rfl rfl d_M_count_46 ?_
    exact z_iret C d_M_count_49 (by decide) (by decide) (⟨rfl, rfl⟩)
  by_cases c2 : w = 2
  · subst c2
    refine z_tableIn C 50 (by omega) d_M_count_1 (by omega) (by omega) (off := 49) (by decide) (by decide) ?_
    refine z_aload_n C d_M_count_50 rfl ?_
    refine m_get C hM in_M 5 (by decide) tw_fl_M_24 rfl rfl d_M_count_51 ?_
    refine z_callS C hKl (cM_filled (a := ad 5) (f := s 5) hF (fun j => by have := hI.kd j; omega) (hM.1.2.1 5 rfl)) (zgood (fun _ h => h) tw_co_M_filled) rfl tw_ml_M_104 tw_st_M_filled tw_in_M pd_M_filled (by decide) rfl (Nat.le_of_ble_eq_true rfl) (by decide) d_M_count_54 (fun r σ' hp => ?_)
    obtain ⟨rfl, rfl⟩ := hp
    exact z_iret C d_M_count_57 (by decide) (by decide) (⟨rfl, rfl⟩)
  by_cases c3 : w = 3
  · subst c3
    refine z_tableIn C 58 (by omega) d_M_count_1 (by omega) (by omega) (off := 57) (by decide) (by decide) ?_
    refine z_aload_n C d_M_count_58 rfl ?_
    refine m_get C hM in_M 11 (by decide) tw_fl_M_42 rfl rfl d_M_count_59 ?_
    refine z_callS C hKl (cM_filled (a := ad 11) (f := s 11) hF (fun j => by have := hI.si j; have := hI.md; omega) (hM.1.2.1 11 rfl)) (zgood (fun _ h => h) tw_co_M_filled) rfl tw_ml_M_104 tw_st_M_filled tw_in_M pd_M_filled (by decide) rfl (Nat.le_of_ble_eq_true rfl) (by decide) d_M_count_62 (fun r σ' hp => ?_)
    obtain ⟨rfl, rfl⟩ := hp
    exact z_iret C d_M_count_65 (by decide) (by decide) (⟨rfl, rfl⟩)
  by_cases c4 : w = 4
  · subst c4
    refine z_tableIn C 66 (by omega) d_M_count_1 (by omega) (by omega) (off := 65) (by decide) (by decide) ?_
    refine z_aload_n C d_M_count_66 rfl ?_
    refine m_get C hM in_M 12 (by decide) tw_fl_M_45 rfl rfl d_M_count_67 ?_
    refine z_callS C hKl (cM_filled (a := ad 12) (f := s 12) hF (fun j => by have := hI.re j; have := hI.md; omega) (hM.1.2.1 12 rfl)) (zgood (fun _ h => h) tw_co_M_filled) rfl tw_ml_M_104 tw_st_M_filled tw_in_M pd_M_filled (by decide) rfl (Nat.le_of_ble_eq_true rfl) (by decide) d_M_count_70 (fun r σ' hp => ?_)
    obtain ⟨rfl, rfl⟩ := hp
    exact z_iret C d_M_count_73 (by decide) (by decide) (⟨rfl, rfl⟩)
  by_cases c5 : w = 5
  · subst c5
    refine z_tableIn C 74 (by omega) d_M_count_1 (by omega) (by omega) (off := 73) (by decide) (by decide) ?_
    refine z_aload_n C d_M_count_74 rfl ?_
    refine m_get C hM in_M 15 (by decide) tw_fl_M_100 rfl rfl d_M_count_75 ?_
    refine z_if_eq C 85 (by omega) d_M_count_78 (by decide) (fun h78 => ?_) (fun h78 => ?_)
    · refine z_iconst C d_M_count_85 ?_
      exact z_iret C d_M_count_86 (by decide) (by decide) (by rw [show sp_count s 5 = 0 from h78]; exact ⟨rfl, rfl⟩)
    · refine z_iconst C d_M_count_81 ?_
      refine z_goto C 86 d_M_count_82 (by decide) ?_
      exact z_iret C d_M_count_86 (by decide) (by decide) (by rw [show sp_count s 5 = 1 from by show s 15 0 = 1; omega]; exact ⟨rfl, rfl⟩)
  refine z_tableOut C 87 (by omega) d_M_count_1 (by omega) (by decide) ?_
  refine z_iconst C d_M_count_87 ?_
  exact z_iret C d_M_count_88 (by decide) (by decide) (by rw [show sp_count s w = -1 from by unfold sp_count; rw [if_neg c0, if_neg c1, if_neg c2, if_neg c3, if_neg c4, if_neg c5]]; exact ⟨rfl, rfl⟩)
end MC2
