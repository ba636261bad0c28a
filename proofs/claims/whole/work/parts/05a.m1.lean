section MC1
variable {l : Launch} {D : va_G} {A : Nat → Prop} {cI cZ cJ cB : ClassId} {F : State → Prop} {m0 : Nat} {ad : Nat → Nat} {σ : zh} {s : St}
set_option maxRecDepth 100000 in
set_option maxHeartbeats 4000000 in
theorem cM_noPair (i k : Int) (hF : zFok F A) (hI : Inv s) (hM : RM cI cZ cJ m0 ad s σ) (ri : -2147483648 ≤ i ∧ i ≤ 2147483647) (rk : -2147483648 ≤ k ∧ k ≤ 2147483647) : zM l D vwCl A (ztys cI cZ cJ cB) F y_M_noPair ws_M_noPair (zroom 0 0 0) [.ref m0, iv i, iv k] σ (fun r σ' => σ' = σ ∧ ∃ b : Int, r = some (iv b) ∧ ((b = 1 ∧ (i < 0 ∨ s 1 0 ≤ i ∨ k < 0 ∨ 11 < k)) ∨ (b = 0 ∧ 0 ≤ i ∧ i < s 1 0 ∧ 0 ≤ k ∧ k ≤ 11))) := by
  refine zMet2 hF (by decide) (Nat.le_of_ble_eq_true rfl) (fun K hKl C => ?_)
  have hM := mR.rf hM
  have hinj := hI.inj
  refine z_iload_n C d_M_noPair_0 rfl ?_
  refine z_if_lt C 22 (by omega) d_M_noPair_1 (by decide) (fun h1 => ?_) (fun h1 => ?_)
  · refine z_iconst C d_M_noPair_22 ?_
    refine z_goto C 27 d_M_noPair_23 (by decide) ?_
    exact z_zret C d_M_noPair_27 (by decide) (by decide) (by omega) (⟨rfl, _, rfl, by omega⟩)
  · refine z_iload_n C d_M_noPair_4 rfl ?_
    refine z_aload_n C d_M_noPair_5 rfl ?_
    refine m_get C hM in_M 1 (by decide) tw_fl_M_13 rfl rfl d_M_noPair_6 ?_
    refine z_icmp_ge C 22 (by omega) (by omega) d_M_noPair_9 (by decide) (fun h9 => ?_) (fun h9 => ?_)
    · refine z_iconst C d_M_noPair_22 ?_
      refine z_goto C 27 d_M_noPair_23 (by decide) ?_
      exact z_zret C d_M_noPair_27 (by decide) (by decide) (by omega) (⟨rfl, _, rfl, by omega⟩)
    · refine z_iload_n C d_M_noPair_12 rfl ?_
      refine z_if_lt C 22 (by omega) d_M_noPair_13 (by decide) (fun h13 => ?_) (fun h13 => ?_)
      · refine z_iconst C d_M_noPair_22 ?_
        refine z_goto C 27 d_M_noPair_23 (by decide) ?_
        exact z_zret C d_M_noPair_27 (by decide) (by decide) (by omega) (⟨rfl, _, rfl, by omega⟩)
      · refine z_iload_n C d_M_noPair_16 rfl ?_
        refine z_bipush C d_M_noPair_17 (by decide) ?_
        refine z_icmp_le C 26 (by omega) (by omega) d_M_noPair_19 (by decide) (fun h19 => ?_) (fun h19 => ?_)
        · refine z_iconst C d_M_noPair_26 ?_
          exact z_zret C d_M_noPair_27 (by decide) (by decide) (by omega) (⟨rfl, _, rfl, by omega⟩)
        · refine z_iconst C d_M_noPair_22 ?_
          refine z_goto C 27 d_M_noPair_23 (by decide) ?_
          exact z_zret C d_M_noPair_27 (by decide) (by decide) (by omega) (⟨rfl, _, rfl, by omega⟩)
set_option maxRecDepth 100000 in
set_option maxHeartbeats 4000000 in
theorem cM_child (p : Int) (hF : zFok F A) (hI : Inv s) (hM : RM cI cZ cJ m0 ad s σ) (rp : -2147483648 ≤ p ∧ p ≤ 2147483647) : zM l D vwCl A (ztys cI cZ cJ cB) F y_M_child ws_M_child (zroom 0 0 0) [.ref m0, iv p] σ (fun r σ' => r = some (iv (sp_child s p).1) ∧ mR cI cZ cJ m0 ad σ (sp_child s p).2 σ') := by
  refine zMet2 hF (by decide) (Nat.le_of_ble_eq_true rfl) (fun K hKl C => ?_)
  have hM := mR.rf hM
  have hinj := hI.inj
  refine z_iload_n C d_M_child_0 rfl ?_
  refine z_if_lt C 20 (by omega) d_M_child_1 (by decide) (fun h1 => ?_) (fun h1 => ?_)
  · refine z_iconst C d_M_child_20 ?_
    exact z_iret C d_M_child_21 (by decide) (by decide) (by rw [show sp_child s p = (-1, s) from if_pos (by omega)]; exact ⟨rfl, hM⟩)
  · refine z_iload_n C d_M_child_4 rfl ?_
    refine z_aload_n C d_M_child_5 rfl ?_
    refine m_get C hM in_M 1 (by decide) tw_fl_M_13 rfl rfl d_M_child_6 ?_
    refine z_icmp_ge C 20 (by omega) (by omega) d_M_child_9 (by decide) (fun h9 => ?_) (fun h9 => ?_)
    · refine z_iconst C d_M_child_20 ?_
      exact z_iret C d_M_child_21 (by decide) (by decide) (by rw [show sp_child s p = (-1, s) from if_pos (by omega)]; exact ⟨rfl, hM⟩)
    · refine z_aload_n C d_M_child_12 rfl ?_
      refine m_get C hM in_M 1 (by decide) tw_fl_M_13 rfl rfl d_M_child_13 ?_
      refine z_iconst C d_M_child_16 ?_
      refine z_icmp_ne C 22 (by omega) (by omega) d_M_child_17 (by decide) (fun h17 => ?_) (fun h17 => ?_)
      · refine z_aload_n C d_M_child_22 rfl ?_
        refine m_get C hM in_M 0 (by decide) tw_fl_M_7 rfl rfl d_M_child_23 ?_
        refine z_aload_n C d_M_child_26 rfl ?_
        refine m_get C hM in_M 1 (by decide) tw_fl_M_13 rfl rfl d_M_child_27 ?_
        refine z_iload_n C d_M_child_30 rfl ?_
        refine m_iast C hM 0 rfl (n := 3) (fun _ => rfl) ((s 1 0).toNat) (by omega) (by omega) (by decide) d_M_child_31 (fun σ hM => ?_)
        refine z_aload_n C d_M_child_32 rfl ?_
        refine z_dup C rfl d_M_child_33 ?_
        refine m_get C hM in_M 1 (by decide) tw_fl_M_13 rfl rfl d_M_child_34 ?_
        refine z_iconst C d_M_child_37 ?_
        refine z_iadd C d_M_child_38 ?_
        refine m_put C hM in_M 1 (by decide) rfl tw_fl_M_13 rfl rfl (tk_M 1 (by decide)) rfl rfl rfl d_M_child_39 (fun σ hM => ?_)
        refine z_aload_n C d_M_child_42 rfl ?_
        refine m_get C hM in_M 1 (by decide) tw_fl_M_13 rfl rfl d_M_child_43 ?_
        refine z_iconst C d_M_child_46 ?_
        refine z_isub C d_M_child_47 ?_
        exact z_iret C d_M_child_48 (by decide) (by decide) (by rw [show sp_child s p = (s 1 0, sup (sup s 0 (s 1 0).toNat p) 1 0 (s 1 0 + 1)) from if_neg (by omega)]; exact ⟨by show some (iv (s 1 0 + 1 - 1)) = some (iv (s 1 0)); rw [Int.add_sub_cancel], hM⟩)
      · refine z_iconst C d_M_child_20 ?_
        exact z_iret C d_M_child_21 (by decide) (by decide) (by rw [show sp_child s p = (-1, s) from if_pos (by omega)]; exact ⟨rfl, hM⟩)
set_option maxRecDepth 100000 in
set_option maxHeartbeats 4000000 in
theorem cM_need (k z : Int) (hF : zFok F A) (hI : Inv s) (hM : RM cI cZ cJ m0 ad s σ) (rk : -2147483648 ≤ k ∧ k ≤ 2147483647) (hz : z = 0 ∨ z = 1) : zM l D vwCl A (ztys cI cZ cJ cB) F y_M_need ws_M_need (zroom 0 0 0) [.ref m0, iv k, iv z] σ (fun r σ' => r = some (iv (sp_need s k z).1) ∧ mR cI cZ cJ m0 ad σ (sp_need s k z).2 σ') := by
  refine zMet2 hF (by decide) (Nat.le_of_ble_eq_true rfl) (fun K hKl C => ?_)
  have hM := mR.rf hM
  have hbn := hI.bn
  refine z_iload_n C d_M_need_0 rfl ?_
  refine z_if_lt C 18 (by omega) d_M_need_1 (by decide) (fun h1 => ?_) (fun h1 => ?_)
  · refine z_iconst C d_M_need_18 ?_
    exact z_iret C d_M_need_19 (by decide) (by decide) (by rw [show sp_need s k z = (-1, s) from if_pos (by omega)]; exact ⟨rfl, hM⟩)
  · refine z_iload_n C d_M_need_4 rfl ?_
    refine z_bipush C d_M_need_5 (by decide) ?_
    refine z_icmp_gt C 18 (by omega) (by omega) d_M_need_7 (by decide) (fun h7 => ?_) (fun h7 => ?_)
    · refine z_iconst C d_M_need_18 ?_
      exact z_iret C d_M_need_19 (by decide) (by decide) (by rw [show sp_need s k z = (-1, s) from if_pos (by omega)]; exact ⟨rfl, hM⟩)
    · refine z_aload_n C d_M_need_10 rfl ?_
      refine m_get C hM in_M 4 (by decide) tw_fl_M_85 rfl rfl d_M_need_11 ?_
      refine z_iconst C d_M_need_14 ?_
      refine z_icmp_ne C 20 (by omega) (by omega) d_M_need_15 (by decide) (fun h15 => ?_) (fun h15 => ?_)
      · refine z_aload_n C d_M_need_20 rfl ?_
        refine m_get C hM in_M 2 (by decide) tw_fl_M_17 rfl rfl d_M_need_21 ?_
        refine z_aload_n C d_M_need_24 rfl ?_
        refine m_get C hM in_M 4 (by decide) tw_fl_M_85 rfl rfl d_M_need_25 ?_
        refine z_iload_n C d_M_need_28 rfl ?_
        refine m_iast C hM 2 rfl (n := 4) (fun _ => rfl) ((s 4 0).toNat) (by omega) (by omega) (by decide) d_M_need_29 (fun σ hM => ?_)
        refine z_aload_n C d_M_need_30 rfl ?_
        refine m_get C hM in_M 3 (by decide) tw_fl_M_20 rfl rfl d_M_need_31 ?_
        refine z_aload_n C d_M_need_34 rfl ?_
        refine m_get C hM in_M 4 (by decide) tw_fl_M_85 rfl rfl d_M_need_35 ?_
        refine z_top (w := iv (s 4 0)) rfl ?_
        refine z_iload_n C d_M_need_38 rfl ?_
        refine m_zast C hM 3 rfl (n := 4) (fun _ => rfl) ((s 4 0).toNat) (by omega) (by omega) (by decide) (by omega) d_M_need_39 (fun σ hM => ?_)
        refine z_aload_n C d_M_need_40 rfl ?_
        refine z_dup C rfl d_M_need_41 ?_
        refine m_get C hM in_M 4 (by decide) tw_fl_M_85 rfl rfl d_M_need_42 ?_
        refine z_top (w := iv (s 4 0)) rfl ?_
        refine z_iconst C d_M_need_45 ?_
        refine z_iadd C d_M_need_46 ?_
        refine m_put C hM in_M 4 (by decide) rfl tw_fl_M_85 rfl rfl (tk_M 4 (by decide)) rfl rfl rfl d_M_need_47 (fun σ hM => ?_)
        refine z_aload_n C d_M_need_50 rfl ?_
        refine m_get C hM in_M 4 (by decide) tw_fl_M_85 rfl rfl d_M_need_51 ?_
        exact z_iret C d_M_need_54 (by decide) (by decide) (by rw [show sp_need s k z = (s 4 0 + 1, sup (sup (sup s 2 (s 4 0).toNat k) 3 (s 4 0).toNat z) 4 0 (s 4 0 + 1)) from if_neg (by omega)]; exact ⟨rfl, hM⟩)
      · refine z_iconst C d_M_need_18 ?_
        exact z_iret C d_M_need_19 (by decide) (by decide) (by rw [show sp_need s k z = (-1, s) from if_pos (by omega)]; exact ⟨rfl, hM⟩)
set_option maxRecDepth 100000 in
set_option maxHeartbeats 4000000 in
theorem cM_drop  (hF : zFok F A) (hM : RM cI cZ cJ m0 ad s σ)  : zM l D vwCl A (ztys cI cZ cJ cB) F y_M_drop ws_M_drop (zroom 0 0 0) [.ref m0] σ (fun r σ' => r = some (iv (sp_drop s).1) ∧ mR cI cZ cJ m0 ad σ (sp_drop s).2 σ') := by
  refine zMet2 hF (by decide) (Nat.le_of_ble_eq_true rfl) (fun K hKl C => ?_)
  have hM := mR.rf hM
  refine z_aload_n C d_M_drop_0 rfl ?_
  refine m_get C hM in_M 4 (by decide) tw_fl_M_85 rfl rfl d_M_drop_1 ?_
  refine z_istore_n C d_M_drop_4 (by decide) ?_
  refine z_aload_n C d_M_drop_5 rfl ?_
  refine z_iconst C d_M_drop_6 ?_
  refine m_put C hM in_M 4 (by decide) rfl tw_fl_M_85 rfl rfl (tk_M 4 (by decide)) rfl rfl rfl d_M_drop_7 (fun σ hM => ?_)
  refine z_iload_n C d_M_drop_10 rfl ?_
  exact z_iret C d_M_drop_11 (by decide) (by decide) (⟨rfl, hM⟩)
set_option maxRecDepth 100000 in
set_option maxHeartbeats 4000000 in
theorem cM_open  (hF : zFok F A) (hI : Inv s) (hM : RM cI cZ cJ m0 ad s σ)  : zM l D vwCl A (ztys cI cZ cJ cB) F y_M_open ws_M_open (zroom 0 0 0) [.ref m0] σ (fun r σ' => r = some (iv (sp_open s).1) ∧ mR cI cZ cJ m0 ad σ (sp_open s).2 σ') := by
  refine zMet2 hF (by decide) (Nat.le_of_ble_eq_true rfl) (fun K hKl C => ?_)
  have hM := mR.rf hM
  have hop := hI.op
  refine z_aload_n C d_M_open_0 rfl ?_
  refine m_get C hM in_M 15 (by decide) tw_fl_M_100 rfl rfl d_M_open_1 ?_
  refine z_if_eq C 9 (by omega) d_M_open_4 (by decide) (fun h4 => ?_) (fun h4 => ?_)
  · refine z_aload_n C d_M_open_9 rfl ?_
    refine z_iconst C d_M_open_10 ?_
    refine m_put C hM in_M 15 (by decide) rfl tw_fl_M_100 rfl rfl (tk_M 15 (by decide)) (znarz (Or.inr rfl)) (zfitz (Or.inr rfl)) rfl d_M_open_11 (fun σ hM => ?_)
    refine z_iconst C d_M_open_14 ?_
    exact z_iret C d_M_open_15 (by decide) (by decide) (by rw [show sp_open s = (1, sup s 15 0 1) from if_pos (by omega)]; exact ⟨rfl, hM⟩)
  · refine z_iconst C d_M_open_7 ?_
    exact z_iret C d_M_open_8 (by decide) (by decide) (by rw [show sp_open s = (-1, s) from if_neg (by omega)]; exact ⟨rfl, hM⟩)
set_option maxRecDepth 100000 in
set_option maxHeartbeats 4000000 in
theorem cM_seen (i k : Nat) (hF : zFok F A) (hI : Inv s) (hM : RM cI cZ cJ m0 ad s σ) (hi : i < 3) (hk : k < 12) : zM l D vwCl A (ztys cI cZ cJ cB) F y_M_seen ws_M_seen (zroom 0 0 0) [.ref m0, iv (i : Int), iv (k : Int)] σ (fun r σ' => σ' = σ ∧ r = some (iv (sn s i k))) := by
  refine zMet2 hF (by decide) (Nat.le_of_ble_eq_true rfl) (fun K hKl C => ?_)
  have hM := mR.rf hM
  have loop : ∀ (n : Nat) (x : Int), -1 ≤ x → x < 3 → x < n → zJ K D vwCl A 4 (zQ K D vwCl A (fun r σ' => σ' = σ ∧ r = some (iv (snf s k n x))) 0 0) 0 0 σ 2 [some (.ref m0), some (iv (i : Int)), some (iv (k : Int)), some (iv x)] [] := by
    intro n
    induction n with
    | zero =>
      intro x h1 h2 h3
      refine z_iload_n C d_M_seen_2 rfl ?_
      refine z_if_lt C 37 (by omega) d_M_seen_3 (by decide) (fun h3 => ?_) (fun h3 => absurd h3 (by omega))
      refine z_iconst C d_M_seen_37 ?_
      exact z_iret C d_M_seen_38 (by decide) (by decide) (⟨rfl, rfl⟩)
    | succ n ih =>
      intro x h1 h2 h3
      have hp := fun h => hI.par.at (i := x.toNat) h
      have hkd := hI.kd (12 * x.toNat + k)
      have es : snf s k (n + 1) x = if x < 0 then -1 else if s 5 (12 * x.toNat + k) ≠ 0 then 12 * x + k else snf s k n (s 0 x.toNat) := rfl
      refine z_iload_n C d_M_seen_2 rfl ?_
      refine z_if_lt C 37 (by omega) d_M_seen_3 (by decide) (fun h3 => ?_) (fun h3 => ?_)
      · refine z_iconst C d_M_seen_37 ?_
        exact z_iret C d_M_seen_38 (by decide) (by decide) (by rw [es, if_pos h3]; exact ⟨rfl, rfl⟩)
      · refine z_aload_n C d_M_seen_6 rfl ?_
        refine m_get C hM in_M 5 (by decide) tw_fl_M_24 rfl rfl d_M_seen_7 ?_
        refine z_bipush C d_M_seen_10 (by decide) ?_
        refine z_iload_n C d_M_seen_12 rfl ?_
        refine z_imul C d_M_seen_13 ?_
        refine z_iload_n C d_M_seen_14 rfl ?_
        refine z_iadd C d_M_seen_15 ?_
        refine m_iald C hM 5 rfl (n := 36) (fun _ => rfl) (12 * x.toNat + k) (by omega) (by omega) (by decide) d_M_seen_16 ?_
        refine z_if_eq C 27 (by omega) d_M_seen_17 (by decide) (fun h17 => ?_) (fun h17 => ?_)
        · refine z_aload_n C d_M_seen_27 rfl ?_
          refine m_get C hM in_M 0 (by decide) tw_fl_M_7 rfl rfl d_M_seen_28 ?_
          refine z_iload_n C d_M_seen_31 rfl ?_
          refine m_iald C hM 0 rfl (n := 3) (fun _ => rfl) (x.toNat) (by omega) (by omega) (by decide) d_M_seen_32 ?_
          refine z_istore_n C d_M_seen_33 (by decide) ?_
          refine z_goto C 2 d_M_seen_34 (by decide) ?_
          rw [es, if_neg (by omega), if_neg (by omega)]
          have hp := hp (by omega)
          exact ih (s 0 x.toNat) (by omega) (by omega) (by omega)
        · refine z_bipush C d_M_seen_20 (by decide) ?_
          refine z_iload_n C d_M_seen_22 rfl ?_
          refine z_imul C d_M_seen_23 ?_
          refine z_iload_n C d_M_seen_24 rfl ?_
          refine z_iadd C d_M_seen_25 ?_
          exact z_iret C d_M_seen_26 (by decide) (by decide) (by rw [es, if_neg (by omega), if_pos h17]; exact ⟨rfl, rfl⟩)
  refine z_iload_n C d_M_seen_0 rfl ?_
  refine z_istore_n C d_M_seen_1 (by decide) ?_
  exact loop 3 (i : Int) (by omega) (by omega) (by omega)
set_option maxRecDepth 100000 in
set_option maxHeartbeats 4000000 in
theorem cM_filled {a : Nat} {f : Nat → Int} (hF : zFok F A) (hf : ∀ j, -2147483648 ≤ f j ∧ f j ≤ 2147483647) (ha : σ a = some (ia cI 36 f)) : zM l D vwCl A (ztys cI cZ cJ cB) F y_M_filled ws_M_filled (zroom 0 0 0) [.ref a] σ (fun r σ' => σ' = σ ∧ r = some (iv (cntz f 36))) := by
  refine zMet2 hF (by decide) (Nat.le_of_ble_eq_true rfl) (fun K hKl C => ?_)
  have loop : ∀ (n k : Nat), k + n = 36 → zJ K D vwCl A 3 (zQ K D vwCl A (fun r σ' => σ' = σ ∧ r = some (iv (cntz f 36))) 0 0) 0 0 σ 4 [some (.ref a), some (iv (cntz f k)), some (iv (k : Int))] [] := by
    intro n
    induction n with
    | zero =>
      intro k hk
      have e : k = 36 := by omega
      subst e
      refine z_iload_n C d_M_filled_4 rfl ?_
      refine z_bipush C d_M_filled_5 (by decide) ?_
      refine z_icmp_ge C 25 (by omega) (by omega) d_M_filled_7 (by decide) (fun h7 => ?_) (fun h7 => absurd h7 (by omega))
      refine z_iload_n C d_M_filled_25 rfl ?_
      exact z_iret C d_M_filled_26 (by decide) (by decide) (⟨rfl, rfl⟩)
    | succ n ih =>
      intro k hk
      have hfk := hf k
      have hc := cntz_r f k
      have es : cntz f (k + 1) = cntz f k + (if f k = 0 then 0 else 1) := rfl
      refine z_iload_n C d_M_filled_4 rfl ?_
      refine z_bipush C d_M_filled_5 (by decide) ?_
      refine z_icmp_ge C 25 (by omega) (by omega) d_M_filled_7 (by decide) (fun h7 => absurd h7 (by omega)) (fun h7 => ?_)
      refine z_aload_n C d_M_filled_10 rfl ?_
      refine z_iload_n C d_M_filled_11 rfl ?_
      refine z_iald C 0 rfl ha k rfl (by omega) (by decide) d_M_filled_12 ?_
      refine z_if_eq C 19 (by omega) d_M_filled_13 (by decide) (fun h13 => ?_) (fun h13 => ?_)
      · refine z_iinc C d_M_filled_19 rfl (by decide) ?_
        refine z_goto C 4 d_M_filled_22 (by decide) ?_
        have j := ih (k + 1) (by omega)
        rw [es, if_pos h13, Int.add_zero, show ((k + 1 : Nat) : Int) = (k : Int) + 1 from by omega] at j
        exact j
      · refine z_iinc C d_M_filled_16 rfl (by decide) ?_
        refine z_iinc C d_M_filled_19 rfl (by decide) ?_
        refine z_goto C 4 d_M_filled_22 (by decide) ?_
        have j := ih (k + 1) (by omega)
        rw [es, if_neg h13, show ((k + 1 : Nat) : Int) = (k : Int) + 1 from by omega] at j
        exact j
  refine z_iconst C d_M_filled_0 ?_
  refine z_istore_n C d_M_filled_1 (by decide) ?_
  refine z_iconst C d_M_filled_2 ?_
  refine z_istore_n C d_M_filled_3 (by decide) ?_
  exact loop 36 0 (by omega)
end MC1
