section MC3
variable {l : Launch} {D : va_G} {A : Nat → Prop} {cI cZ cJ cB : ClassId} {F : State → Prop} {m0 : Nat} {ad : Nat → Nat} {σ : zh} {s : St}
set_option maxRecDepth 100000 in
set_option maxHeartbeats 4000000 in
theorem cM_bindClass (i k sc : Int) (hF : zFok F A) (hI : Inv s) (hM : RM cI cZ cJ m0 ad s σ) (ri : -2147483648 ≤ i ∧ i ≤ 2147483647) (rk : -2147483648 ≤ k ∧ k ≤ 2147483647) (rsc : -2147483648 ≤ sc ∧ sc ≤ 2147483647) : zM l D vwCl A (ztys cI cZ cJ cB) F y_M_bindClass ws_M_bindClass (zroom 2 0 0) [.ref m0, iv i, iv k, iv sc] σ (fun r σ' => r = some (iv (sp_bindClass s i k sc).1) ∧ mR cI cZ cJ m0 ad σ (sp_bindClass s i k sc).2 σ') := by
  refine zMet2 hF (by decide) (Nat.le_of_ble_eq_true rfl) (fun K hKl C => ?_)
  have hM := mR.rf hM
  have hinj := hI.inj
  have hbn := hI.bn
  have loop : ¬ (i < 0 ∨ s 1 0 ≤ i ∨ k < 0 ∨ 11 < k ∨ s 5 (pr i k) ≠ 0) → ¬ (sc < 0 ∨ 2 < sc) → ∀ (n j : Nat), j + n = (s 4 0).toNat → ∀ σ1 : zh, mR cI cZ cJ m0 ad σ (srow (srow (sup (sup (sup (sup s 5 (pr i k) 3) 6 (pr i k) 0) 7 (pr i k) sc) 8 (pr i k) (s 4 0)) 9 (cpn (s 9) (4 * pr i k) j (s 2))) 10 (cpn (s 10) (4 * pr i k) j (s 3))) σ1 → zJ K D vwCl A 6 (zQ K D vwCl A (fun r σ' => r = some (iv (sp_bindClass s i k sc).1) ∧ mR cI cZ cJ m0 ad σ (sp_bindClass s i k sc).2 σ') 0 0) 0 0 σ1 53 [some (.ref m0), some (iv i), some (iv k), some (iv sc), some (iv (12 * i + k)), some (iv (j : Int))] [] := by
    intro hbad hsc n
    have hpr : ((pr i k : Nat) : Int) = 12 * i + k := by unfold pr; omega
    induction n with
    | zero =>
      intro j hj σ1 hM
      have e : j = (s 4 0).toNat := by omega
      subst e
      refine z_iload C d_M_bindClass_53 rfl ?_
      refine z_aload_n C d_M_bindClass_55 rfl ?_
      refine m_get C hM in_M 4 (by decide) tw_fl_M_85 rfl rfl d_M_bindClass_56 ?_
      refine z_top (w := iv (s 4 0)) rfl ?_
      refine z_icmp_ge C 106 (by omega) (by omega) d_M_bindClass_59 (by decide) (fun h59 => ?_) (fun h59 => absurd h59 (by omega))
      refine z_aload_n C d_M_bindClass_106 rfl ?_
      refine z_callV C hKl (cM_drop hF hM.1) (zgood (fun _ h => h) tw_co_M_drop) rfl (hM.1.1) rfl tw_ml_M_96 tw_im_M_drop tw_se_M_drop tw_in_M pd_M_drop (by decide) rfl (Nat.le_of_ble_eq_true rfl) (by decide) d_M_bindClass_107 (fun r σ' hp => ?_)
      obtain ⟨rfl, hp⟩ := hp
      exact z_iret C d_M_bindClass_110 (by decide) (by decide) (by rw [show sp_bindClass s i k sc = (s 4 0, bcl s (pr i k) sc) from if_neg (by omega)]; exact ⟨rfl, hM.tr hp⟩)
    | succ n ih =>
      intro j hj σ1 hM
      have hbk := hI.bk j
      have hbz := hI.bz j
      refine z_iload C d_M_bindClass_53 rfl ?_
      refine z_aload_n C d_M_bindClass_55 rfl ?_
      refine m_get C hM in_M 4 (by decide) tw_fl_M_85 rfl rfl d_M_bindClass_56 ?_
      refine z_top (w := iv (s 4 0)) rfl ?_
      refine z_icmp_ge C 106 (by omega) (by omega) d_M_bindClass_59 (by decide) (fun h59 => absurd h59 (by omega)) (fun h59 => ?_)
      refine z_aload_n C d_M_bindClass_62 rfl ?_
      refine m_get C hM in_M 9 (by decide) tw_fl_M_36 rfl rfl d_M_bindClass_63 ?_
      refine z_iconst C d_M_bindClass_66 ?_
      refine z_iload C d_M_bindClass_67 rfl ?_
      refine z_imul C d_M_bindClass_69 ?_
      refine z_iload C d_M_bindClass_70 rfl ?_
      refine z_iadd C d_M_bindClass_72 ?_
      refine z_aload_n C d_M_bindClass_73 rfl ?_
      refine m_get C hM in_M 2 (by decide) tw_fl_M_17 rfl rfl d_M_bindClass_74 ?_
      refine z_iload C d_M_bindClass_77 rfl ?_
      refine m_iald C hM 2 rfl (n := 4) (fun _ => rfl) (j) (by omega) (by omega) (by decide) d_M_bindClass_79 ?_
      refine z_top (w := iv (s 2 j)) rfl ?_
      refine m_iast C hM 9 rfl (n := 144) (fun _ => rfl) (4 * pr i k + j) (by omega) (by omega) (by decide) d_M_bindClass_80 (fun σ hM => ?_)
      refine z_aload_n C d_M_bindClass_81 rfl ?_
      refine m_get C hM in_M 10 (by decide) tw_fl_M_39 rfl rfl d_M_bindClass_82 ?_
      refine z_iconst C d_M_bindClass_85 ?_
      refine z_iload C d_M_bindClass_86 rfl ?_
      refine z_imul C d_M_bindClass_88 ?_
      refine z_iload C d_M_bindClass_89 rfl ?_
      refine z_iadd C d_M_bindClass_91 ?_
      refine z_aload_n C d_M_bindClass_92 rfl ?_
      refine m_get C hM in_M 3 (by decide) tw_fl_M_20 rfl rfl d_M_bindClass_93 ?_
      refine z_iload C d_M_bindClass_96 rfl ?_
      refine m_zald C hM 3 rfl (n := 4) (fun _ => rfl) (j) (by omega) (by omega) (by decide) d_M_bindClass_98 ?_
      refine z_top (w := iv (s 3 j)) rfl ?_
      refine m_zast C hM 10 rfl (n := 144) (fun _ => rfl) (4 * pr i k + j) (by omega) (by omega) (by decide) (by omega) d_M_bindClass_99 (fun σ hM => ?_)
      rw [srow2_sup _ _ _ (by decide), cpn_1, cpn_1] at hM
      refine z_iinc C d_M_bindClass_100 rfl (by decide) ?_
      refine z_goto C 53 d_M_bindClass_103 (by decide) ?_
      exact ih (j + 1) (by omega) σ hM
  refine z_iload_n C d_M_bindClass_0 rfl ?_
  refine z_if_lt C 21 (by omega) d_M_bindClass_1 (by decide) (fun h1 => ?_) (fun h1 => ?_)
  · refine z_iconst C d_M_bindClass_21 ?_
    exact z_iret C d_M_bindClass_22 (by decide) (by decide) (by rw [show sp_bindClass s i k sc = (-1, s) from if_pos (by omega)]; exact ⟨rfl, hM⟩)
  · refine z_iload_n C d_M_bindClass_4 rfl ?_
    refine z_iconst C d_M_bindClass_5 ?_
    refine z_icmp_gt C 21 (by omega) (by omega) d_M_bindClass_6 (by decide) (fun h6 => ?_) (fun h6 => ?_)
    · refine z_iconst C d_M_bindClass_21 ?_
      exact z_iret C d_M_bindClass_22 (by decide) (by decide) (by rw [show sp_bindClass s i k sc = (-1, s) from if_pos (by omega)]; exact ⟨rfl, hM⟩)
    · refine z_aload_n C d_M_bindClass_9 rfl ?_
      refine z_iload_n C d_M_bindClass_10 rfl ?_
      refine z_iload_n C d_M_bindClass_11 rfl ?_
      refine z_iconst C d_M_bindClass_12 ?_
      refine z_iconst C d_M_bindClass_13 ?_
      refine z_callV C hKl (cM_bind i k 3 0 hF hI hM.1 ri rk (by omega) (by omega)) (zgood (fun _ h => h) tw_co_M_bind) rfl (hM.1.1) rfl tw_ml_M_92 tw_im_M_bind tw_se_M_bind tw_in_M pd_M_bind (by decide) rfl (Nat.le_of_ble_eq_true rfl) (by decide) d_M_bindClass_14 (fun r σ' hp => ?_)
      obtain ⟨rfl, hp⟩ := hp
      by_cases hbad : i < 0 ∨ s 1 0 ≤ i ∨ k < 0 ∨ 11 < k ∨ s 5 (pr i k) ≠ 0
      · rw [show sp_bind s i k 3 0 = (-1, s) from if_pos hbad] at hp ⊢
        have hM := hp
        refine z_iconst C d_M_bindClass_17 ?_
        refine z_icmp_ne C 23 (by omega) (by omega) d_M_bindClass_18 (by decide) (fun h18 => absurd h18 (by omega)) (fun h18 => ?_)
        refine z_iconst C d_M_bindClass_21 ?_
        exact z_iret C d_M_bindClass_22 (by decide) (by decide) (by rw [show sp_bindClass s i k sc = (-1, s) from if_pos (by omega)]; exact ⟨rfl, hM⟩)
      · rw [show sp_bind s i k 3 0 = (1, sup (sup s 5 (pr i k) 3) 6 (pr i k) 0) from if_neg hbad] at hp ⊢
        have hM := hp
        have hpr : ((pr i k : Nat) : Int) = 12 * i + k := by unfold pr; omega
        refine z_iconst C d_M_bindClass_17 ?_
        refine z_icmp_ne C 23 (by omega) (by omega) d_M_bindClass_18 (by decide) (fun h18 => ?_) (fun h18 => absurd h18 (by omega))
        refine z_bipush C d_M_bindClass_23 (by decide) ?_
        refine z_iload_n C d_M_bindClass_25 rfl ?_
        refine z_imul C d_M_bindClass_26 ?_
        refine z_iload_n C d_M_bindClass_27 rfl ?_
        refine z_iadd C d_M_bindClass_28 ?_
        refine z_istore C d_M_bindClass_29 (by decide) ?_
        refine z_aload_n C d_M_bindClass_31 rfl ?_
        refine m_get C hM in_M 7 (by decide) tw_fl_M_30 rfl rfl d_M_bindClass_32 ?_
        refine z_iload C d_M_bindClass_35 rfl ?_
        refine z_iload_n C d_M_bindClass_37 rfl ?_
        refine m_iast C hM 7 rfl (n := 36) (fun _ => rfl) (pr i k) (by omega) (by omega) (by decide) d_M_bindClass_38 (fun σ hM => ?_)
        refine z_aload_n C d_M_bindClass_39 rfl ?_
        refine m_get C hM in_M 8 (by decide) tw_fl_M_33 rfl rfl d_M_bindClass_40 ?_
        refine z_iload C d_M_bindClass_43 rfl ?_
        refine z_aload_n C d_M_bindClass_45 rfl ?_
        refine m_get C hM in_M 4 (by decide) tw_fl_M_85 rfl rfl d_M_bindClass_46 ?_
        refine z_top (w := iv (s 4 0)) rfl ?_
        refine m_iast C hM 8 rfl (n := 36) (fun _ => rfl) (pr i k) (by omega) (by omega) (by decide) d_M_bindClass_49 (fun σ hM => ?_)
        refine z_iconst C d_M_bindClass_50 ?_
        refine z_istore C d_M_bindClass_51 (by decide) ?_
        exact loop (by omega) (by omega) (s 4 0).toNat 0 (by omega) σ (by rw [cpn_0, cpn_0, show srow (srow (sup (sup (sup (sup s 5 (pr i k) 3) 6 (pr i k) 0) 7 (pr i k) sc) 8 (pr i k) (s 4 0)) 9 (s 9)) 10 (s 10) = (sup (sup (sup (sup s 5 (pr i k) 3) 6 (pr i k) 0) 7 (pr i k) sc) 8 (pr i k) (s 4 0)) from (congrArg (fun u => srow u 10 (s 10)) (srow_self (sup (sup (sup (sup s 5 (pr i k) 3) 6 (pr i k) 0) 7 (pr i k) sc) 8 (pr i k) (s 4 0)) 9)).trans (srow_self (sup (sup (sup (sup s 5 (pr i k) 3) 6 (pr i k) 0) 7 (pr i k) sc) 8 (pr i k) (s 4 0)) 10)]; exact hM)
set_option maxRecDepth 100000 in
set_option maxHeartbeats 4000000 in
theorem cM_working (p : Nat) (hF : zFok F A) (hI : Inv s) (hM : RM cI cZ cJ m0 ad s σ) (hp : p < 36) (hm : MI s) : zM l D vwCl A (ztys cI cZ cJ cB) F y_M_working ws_M_working (zroom 0 0 0) [.ref m0, iv (p : Int)] σ (fun r σ' => σ' = σ ∧ ∃ b : Int, r = some (iv b) ∧ ((b = 1 ∧ wkg s p = true) ∨ (b = 0 ∧ ¬ wkg s p = true))) := by
  refine zMet2 hF (by decide) (Nat.le_of_ble_eq_true rfl) (fun K hKl C => ?_)
  have hM := mR.rf hM
  have htop := hm.top
  have loop : ∀ (n k : Nat), ((k + n : Nat) : Int) = s 27 0 → (∀ j, j < k → s 24 j ≠ (p : Int)) → zJ K D vwCl A 3 (zQ K D vwCl A (fun r σ' => σ' = σ ∧ ∃ b : Int, r = some (iv b) ∧ ((b = 1 ∧ wkg s p = true) ∨ (b = 0 ∧ ¬ wkg s p = true))) 0 0) 0 0 σ 2 [some (.ref m0), some (iv (p : Int)), some (iv (k : Int))] [] := by
    intro n
    induction n with
    | zero =>
      intro k hk hno
      refine z_iload_n C d_M_working_2 rfl ?_
      refine z_aload_n C d_M_working_3 rfl ?_
      refine m_get C hM in_M 27 (by decide) tw_fl_M_108 rfl rfl d_M_working_4 ?_
      refine z_icmp_ge C 28 (by omega) (by omega) d_M_working_7 (by decide) (fun h7 => ?_) (fun h7 => absurd h7 (by omega))
      refine z_iconst C d_M_working_28 ?_
      exact z_zret C d_M_working_29 (by decide) (by decide) (by omega) (⟨rfl, 0, rfl, Or.inr ⟨rfl, fun z => by
        unfold wkg at z
        rw [List.any_eq_true] at z
        obtain ⟨j, hj, e⟩ := z
        exact hno j (by have := List.mem_range.mp hj; omega) (of_decide_eq_true e)⟩⟩)
    | succ n ih =>
      intro k hk hno
      have hfr := hm.fr (j := k) (by omega)
      have h1 := hfr.1
      have h2 := hfr.2.1
      refine z_iload_n C d_M_working_2 rfl ?_
      refine z_aload_n C d_M_working_3 rfl ?_
      refine m_get C hM in_M 27 (by decide) tw_fl_M_108 rfl rfl d_M_working_4 ?_
      refine z_icmp_ge C 28 (by omega) (by omega) d_M_working_7 (by decide) (fun h7 => absurd h7 (by omega)) (fun h7 => ?_)
      refine z_aload_n C d_M_working_10 rfl ?_
      refine m_get C hM in_M 24 (by decide) tw_fl_M_76 rfl rfl d_M_working_11 ?_
      refine z_iload_n C d_M_working_14 rfl ?_
      refine m_iald C hM 24 rfl (n := 36) (fun _ => rfl) (k) (by omega) (by omega) (by decide) d_M_working_15 ?_
      refine z_iload_n C d_M_working_16 rfl ?_
      refine z_icmp_ne C 22 (by omega) (by omega) d_M_working_17 (by decide) (fun h17 => ?_) (fun h17 => ?_)
      · refine z_iinc C d_M_working_22 rfl (by decide) ?_
        refine z_goto C 2 d_M_working_25 (by decide) ?_
        exact ih (k + 1) (by omega) (fun j hj => by
          by_cases e : j = k
          · rw [e]; exact h17
          · exact hno j (by omega))
      · refine z_iconst C d_M_working_20 ?_
        exact z_zret C d_M_working_21 (by decide) (by decide) (by omega) (⟨rfl, 1, rfl, Or.inl ⟨rfl, by
          unfold wkg
          rw [List.any_eq_true]
          exact ⟨k, List.mem_range.mpr (by omega), decide_eq_true h17⟩⟩⟩)
  refine z_iconst C d_M_working_0 ?_
  refine z_istore_n C d_M_working_1 (by decide) ?_
  obtain ⟨t, ht⟩ := Int.eq_ofNat_of_zero_le htop.1
  exact loop t 0 (by omega) (fun j hj => absurd hj (by omega))
end MC3
