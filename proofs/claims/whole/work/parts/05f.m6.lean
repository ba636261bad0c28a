section MC6
variable {l : Launch} {D : va_G} {A : Nat → Prop} {cI cZ cJ cB : ClassId} {F : State → Prop} {m0 : Nat} {ad : Nat → Nat} {σ : zh} {s : St}
set_option maxRecDepth 100000 in
set_option maxHeartbeats 4000000 in
theorem cM_get (i k : Int) (hF : zFok F A) (hI : Inv s) (hM : RM cI cZ cJ m0 ad s σ) (ri : -2147483648 ≤ i ∧ i ≤ 2147483647) (rk : -2147483648 ≤ k ∧ k ≤ 2147483647) (hv : VI s) : zM l D vwCl A (ztys cI cZ cJ cB) F y_M_get ws_M_get (zroom 4 0 0) [.ref m0, iv i, iv k] σ (fun r σ' => ∃ s2 : St, r = some (jv (sp_get s i k).1) ∧ Inv s2 ∧ VI s2 ∧ seq s2 (sp_get s i k).2 ∧ mR cI cZ cJ m0 ad σ s2 σ') := by
  refine zMet2 hF (by decide) (Nat.le_of_ble_eq_true rfl) (fun K hKl C => ?_)
  have hM := mR.rf hM
  have hinj := hI.inj
  refine z_aload_n C d_M_get_0 rfl ?_
  refine z_iload_n C d_M_get_1 rfl ?_
  refine z_iload_n C d_M_get_2 rfl ?_
  refine z_callV C hKl (cM_noPair i k hF hI hM.1 ri rk) (zgood (fun _ h => h) tw_co_M_noPair) rfl (hM.1.1) rfl tw_ml_M_88 tw_im_M_noPair tw_se_M_noPair tw_in_M pd_M_noPair (by decide) rfl (Nat.le_of_ble_eq_true rfl) (by decide) d_M_get_3 (fun r σ hp => ?_)
  obtain ⟨rfl, b, rfl, hb⟩ := hp
  refine z_if_eq C 13 (by omega) d_M_get_6 (by decide) (fun h6 => ?_) (fun h6 => ?_)
  · obtain ⟨x, rfl⟩ := Int.eq_ofNat_of_zero_le (show 0 ≤ i by omega)
    obtain ⟨y, rfl⟩ := Int.eq_ofNat_of_zero_le (show 0 ≤ k by omega)
    have es : sp_get s x y = sget s x y := if_neg (by omega)
    obtain ⟨g1, g2, g3, g4, g5⟩ := get_ok hI hv (i := x) (k := y) (by omega) (by omega)
    rw [es]
    refine z_aload_n C d_M_get_13 rfl ?_
    refine m_get C hM in_M 23 (by decide) tw_fl_M_129 rfl rfl d_M_get_14 ?_
    refine z_istore_n C d_M_get_17 (by decide) ?_
    refine z_aload_n C d_M_get_18 rfl ?_
    refine z_callV C hKl (cM_keepCopies hF hM.1) (zgood (fun _ h => h) tw_co_M_keepCopies) rfl (hM.1.1) rfl tw_ml_M_154 tw_im_M_keepCopies tw_se_M_keepCopies tw_in_M pd_M_keepCopies (by decide) rfl (Nat.le_of_ble_eq_true rfl) (by decide) d_M_get_19 (fun r σ' hp => ?_)
    obtain ⟨rfl, hp⟩ := hp
    have hM := hM.tr hp
    refine z_aload_n C d_M_get_22 rfl ?_
    refine z_iload_n C d_M_get_23 rfl ?_
    refine z_iload_n C d_M_get_24 rfl ?_
    refine z_callV C hKl (cM_gets x y hF (kcp_inv hI) hM.1 (by omega) (by omega) hv) (zgood (fun _ h => h) tw_co_M_gets) rfl (hM.1.1) rfl tw_ml_M_157 tw_im_M_gets tw_se_M_gets tw_in_M pd_M_gets (by decide) rfl (Nat.le_of_ble_eq_true rfl) (by decide) d_M_get_25 (fun r σ' hp => ?_)
    obtain ⟨rfl, hp⟩ := hp
    have hM := hM.tr hp
    rw [g1]
    refine z_lstore C d_M_get_28 (by decide) ?_
    refine z_lload C d_M_get_30 rfl ?_
    refine z_lconst C 0 d_M_get_32 rfl ?_
    refine z_lcmp C (by omega) (by omega) d_M_get_33 (fun v33 hv33 => ?_)
    refine z_if_ge C 42 (by omega) d_M_get_34 (by decide) (fun h34 => ?_) (fun h34 => ?_)
    · refine z_lload C d_M_get_42 rfl ?_
      exact z_lret C d_M_get_44 (by decide) (by decide) (have z := g5 (by omega); ⟨_, rfl, z.1, z.2.1, z.2.2, hM⟩)
    · refine z_aload_n C d_M_get_37 rfl ?_
      refine z_iload_n C d_M_get_38 rfl ?_
      refine z_callV C hKl (cM_takeBack (s 23 0) hF hM.1) (zgood (fun _ h => h) tw_co_M_takeBack) rfl (hM.1.1) rfl tw_ml_M_160 tw_im_M_takeBack tw_se_M_takeBack tw_in_M pd_M_takeBack (by decide) rfl (Nat.le_of_ble_eq_true rfl) (by decide) d_M_get_39 (fun r σ' hp => ?_)
      obtain ⟨rfl, hp⟩ := hp
      have hM := hM.tr hp
      refine z_lload C d_M_get_42 rfl ?_
      exact z_lret C d_M_get_44 (by decide) (by decide) (have z := g4 (by omega); ⟨_, rfl, z.1, z.2.1, z.2.2, hM⟩)
  · refine z_ldc2 C (-1) tw_kl_M_152 d_M_get_9 ?_
    exact z_lret C d_M_get_12 (by decide) (by decide) (⟨s, by rw [show sp_get s i k = (-1, s) from if_pos (by omega)], hI, hv, by rw [show sp_get s i k = (-1, s) from if_pos (by omega)]; exact seq.rf s, hM⟩)
set_option maxRecDepth 100000 in
set_option maxHeartbeats 4000000 in
theorem cM_ask (i n : Int) (hF : zFok F A) (hI : Inv s) (hM : RM cI cZ cJ m0 ad s σ) (ri : -2147483648 ≤ i ∧ i ≤ 2147483647) (rn : -2147483648 ≤ n ∧ n ≤ 2147483647) (hv : VI s) : zM l D vwCl A (ztys cI cZ cJ cB) F y_M_ask ws_M_ask (zroom 5 0 0) [.ref m0, iv i, iv n] σ (fun r σ' => ∃ s2 : St, r = some (jv (sp_ask s i n).1) ∧ Inv s2 ∧ VI s2 ∧ seq s2 (sp_ask s i n).2 ∧ mR cI cZ cJ m0 ad σ s2 σ') := by
  refine zMet2 hF (by decide) (Nat.le_of_ble_eq_true rfl) (fun K hKl C => ?_)
  have hM := mR.rf hM
  have hmd := hI.md
  have hinj := hI.inj
  refine z_aload_n C d_M_ask_0 rfl ?_
  refine z_iload_n C d_M_ask_1 rfl ?_
  refine z_iload_n C d_M_ask_2 rfl ?_
  refine z_callV C hKl (cM_noNeed i n hF hI hM.1 ri rn) (zgood (fun _ h => h) tw_co_M_noNeed) rfl (hM.1.1) rfl tw_ml_M_164 tw_im_M_noNeed tw_se_M_noNeed tw_in_M pd_M_noNeed (by decide) rfl (Nat.le_of_ble_eq_true rfl) (by decide) d_M_ask_3 (fun r σ hp => ?_)
  obtain ⟨rfl, b, rfl, hb⟩ := hp
  refine z_if_eq C 13 (by omega) d_M_ask_6 (by decide) (fun h6 => ?_) (fun h6 => ?_)
  · have hin := hI.inn i.toNat
    have hiz := hI.iz (4 * i.toNat + n.toNat)
    have hij := hI.ij i.toNat
    have hij2 := hI.ij2 (i := i.toNat) (by omega)
    have hik := hI.ink (4 * i.toNat + n.toNat)
    refine z_iconst C d_M_ask_13 ?_
    refine z_iload_n C d_M_ask_14 rfl ?_
    refine z_imul C d_M_ask_15 ?_
    refine z_iload_n C d_M_ask_16 rfl ?_
    refine z_iadd C d_M_ask_17 ?_
    refine z_istore_n C d_M_ask_18 (by decide) ?_
    refine z_aload_n C d_M_ask_19 rfl ?_
    refine m_get C hM in_M 21 (by decide) tw_fl_M_69 rfl rfl d_M_ask_20 ?_
    refine z_iload_n C d_M_ask_23 rfl ?_
    refine m_zald C hM 21 rfl (n := 400) (fun _ => rfl) (4 * i.toNat + n.toNat) (by omega) (by omega) (by decide) d_M_ask_24 ?_
    refine z_if_eq C 47 (by omega) d_M_ask_25 (by decide) (fun h25 => ?_) (fun h25 => ?_)
    · refine z_aload_n C d_M_ask_47 rfl ?_
      refine m_get C hM in_M 22 (by decide) tw_fl_M_72 rfl rfl d_M_ask_48 ?_
      refine z_iload_n C d_M_ask_51 rfl ?_
      refine m_lald C hM 22 rfl (n := 400) (fun _ => rfl) (4 * i.toNat + n.toNat) (by omega) (by omega) (by decide) d_M_ask_52 ?_
      exact z_lret C d_M_ask_53 (by decide) (by decide) (⟨s, by rw [show sp_ask s i n = (s 22 (4 * i.toNat + n.toNat), s) from by unfold sp_ask; rw [if_neg (by omega), if_neg (by omega)]], hI, hv, by rw [show sp_ask s i n = (s 22 (4 * i.toNat + n.toNat), s) from by unfold sp_ask; rw [if_neg (by omega), if_neg (by omega)]]; exact seq.rf s, hM⟩)
    · refine z_aload_n C d_M_ask_28 rfl ?_
      refine z_aload_n C d_M_ask_29 rfl ?_
      refine m_get C hM in_M 17 (by decide) tw_fl_M_57 rfl rfl d_M_ask_30 ?_
      refine z_iload_n C d_M_ask_33 rfl ?_
      refine m_iald C hM 17 rfl (n := 100) (fun _ => rfl) (i.toNat) (by omega) (by omega) (by decide) d_M_ask_34 ?_
      refine z_aload_n C d_M_ask_35 rfl ?_
      refine m_get C hM in_M 20 (by decide) tw_fl_M_66 rfl rfl d_M_ask_36 ?_
      refine z_iload_n C d_M_ask_39 rfl ?_
      refine m_iald C hM 20 rfl (n := 400) (fun _ => rfl) (4 * i.toNat + n.toNat) (by omega) (by omega) (by decide) d_M_ask_40 ?_
      refine z_callV C hKl (cM_get (s 17 i.toNat) (s 20 (4 * i.toNat + n.toNat)) hF hI hM.1 (by omega) (by omega) hv) (zgood (fun _ h => h) tw_co_M_get) rfl (hM.1.1) rfl tw_ml_M_167 tw_im_M_get tw_se_M_get tw_in_M pd_M_get (by decide) rfl (Nat.le_of_ble_eq_true rfl) (by decide) d_M_ask_41 (fun r σ' hp => ?_)
      obtain ⟨s2, rfl, p1, p2, p3, p4⟩ := hp
      refine z_goto C 53 d_M_ask_44 (by decide) ?_
      exact z_lret C d_M_ask_53 (by decide) (by decide) (by
        have e1 : sp_ask s i n = sp_get s (s 17 i.toNat) (s 20 (4 * i.toNat + n.toNat)) := by
          unfold sp_ask sp_get
          rw [if_neg (by omega), if_pos (by omega), if_neg (by omega)]
        rw [e1]
        exact ⟨s2, rfl, p1, p2, p3, hM.tr p4⟩)
  · refine z_ldc2 C (-1) tw_kl_M_152 d_M_ask_9 ?_
    exact z_lret C d_M_ask_12 (by decide) (by decide) (⟨s, by rw [show sp_ask s i n = (-1, s) from if_pos (by omega)], hI, hv, by rw [show sp_ask s i n = (-1, s) from if_pos (by omega)]; exact seq.rf s, hM⟩)
set_option maxRecDepth 100000 in
set_option maxHeartbeats 4000000 in
theorem cM_broken (i : Int) (hF : zFok F A) (hI : Inv s) (hM : RM cI cZ cJ m0 ad s σ) (ri : -2147483648 ≤ i ∧ i ≤ 2147483647) (hv : VI s) : zM l D vwCl A (ztys cI cZ cJ cB) F y_M_broken ws_M_broken (zroom 4 0 0) [.ref m0, iv i] σ (fun r σ' => ∃ s2 : St, r = some (iv (sp_broken s i)) ∧ Inv s2 ∧ VI s2 ∧ seq s2 s ∧ mR cI cZ cJ m0 ad σ s2 σ') := by
  refine zMet2 hF (by decide) (Nat.le_of_ble_eq_true rfl) (fun K hKl C => ?_)
  have hM := mR.rf hM
  have hinj := hI.inj
  have loop : ∀ x : Nat, x < 3 → ∀ (n k : Nat) (u : St), k + n = 12 → Inv u → VI u → cpd u → seq u s → ∀ (aa bb : Option Value) (σ1 : zh), mR cI cZ cJ m0 ad σ u σ1 → zJ K D vwCl A 6 (zQ K D vwCl A (fun r σ' => ∃ s2 : St, r = some (iv (brk s x n k)) ∧ Inv s2 ∧ VI s2 ∧ seq s2 s ∧ mR cI cZ cJ m0 ad σ s2 σ') 0 0) 0 0 σ1 25 [some (.ref m0), some (iv (x : Int)), some (iv (s 23 0)), some (iv (k : Int)), aa, bb] [] := by
    intro x hx n
    induction n with
    | zero =>
      intro k u hk hIu hvu hcu hsu aa bb σ1 hM
      refine z_iload_n C d_M_broken_25 rfl ?_
      refine z_bipush C d_M_broken_26 (by decide) ?_
      refine z_icmp_ge C 71 (by omega) (by omega) d_M_broken_28 (by decide) (fun h28 => ?_) (fun h28 => absurd h28 (by omega))
      refine z_bipush C d_M_broken_71 (by decide) ?_
      exact z_iret C d_M_broken_73 (by decide) (by decide) (⟨u, rfl, hIu, hvu, hsu, hM⟩)
    | succ n ih =>
      intro k u hk hIu hvu hcu hsu aa bb σ1 hM
      have hsr := sn_r hIu (i := x) (k := k) hx (by omega)
      have esn : sn u x k = sn s x k := sn_congr (hsu.1 0 rfl) (hsu.1 5 rfl) x k
      have eb : brk s x (n + 1) k = if 0 ≤ sn s x k ∧ (rget 37 (fun _ => false) s x k).1 < 0 then (k : Int) else brk s x n (k + 1) := rfl
      have er := (rget_cg 37 (fun _ => false) u s x k hsu.1).1
      obtain ⟨o1, o2, o3, o4⟩ := rget_ok 37 (fun _ => false) u x k hIu hx (by omega)
      obtain ⟨b1, b2, b3, b4, b5, b6, b7, b8⟩ := back_ok hIu hvu hcu hx (show k < 12 by omega)
      have e23 : u 23 0 = s 23 0 := congrFun (hsu.1 23 rfl) 0
      have next : ∀ (v : St) (σ2 : zh) (aa bb : Option Value), ¬ (0 ≤ sn s x k ∧ (rget 37 (fun _ => false) s x k).1 < 0) → Inv v → VI v → cpd v → seq v s → mR cI cZ cJ m0 ad σ v σ2 → zJ K D vwCl A 6 (zQ K D vwCl A (fun r σ' => ∃ s2 : St, r = some (iv (brk s x (n + 1) k)) ∧ Inv s2 ∧ VI s2 ∧ seq s2 s ∧ mR cI cZ cJ m0 ad σ s2 σ') 0 0) 0 0 σ2 65 [some (.ref m0), some (iv (x : Int)), some (iv (s 23 0)), some (iv (k : Int)), aa, bb] [] := by
        intro v σ2 aa bb hno h1 h2 h3 h4 hM
        rw [eb, if_neg hno]
        refine z_iinc C d_M_broken_65 rfl (by decide) ?_
        refine z_goto C 25 d_M_broken_68 (by decide) ?_
        have j := ih (k + 1) v (by omega) h1 h2 h3 h4 aa bb σ2 hM
        rw [show ((k + 1 : Nat) : Int) = (k : Int) + 1 from by omega] at j
        exact j
      refine z_iload_n C d_M_broken_25 rfl ?_
      refine z_bipush C d_M_broken_26 (by decide) ?_
      refine z_icmp_ge C 71 (by omega) (by omega) d_M_broken_28 (by decide) (fun h28 => absurd h28 (by omega)) (fun h28 => ?_)
      refine z_aload_n C d_M_broken_31 rfl ?_
      refine z_iload_n C d_M_broken_32 rfl ?_
      refine z_iload_n C d_M_broken_33 rfl ?_
      refine z_callV C hKl (cM_seen x k hF hIu hM.1 hx (by omega)) (zgood (fun _ h => h) tw_co_M_seen) rfl (hM.1.1) rfl tw_ml_M_111 tw_im_M_seen tw_se_M_seen tw_in_M pd_M_seen (by decide) rfl (Nat.le_of_ble_eq_true rfl) (by decide) d_M_broken_34 (fun r σ2 hp => ?_)
      obtain ⟨rfl, rfl⟩ := hp
      refine z_if_ge C 43 (by omega) d_M_broken_37 (by decide) (fun h37 => ?_) (fun h37 => ?_)
      · refine z_aload_n C d_M_broken_43 rfl ?_
        refine z_iload_n C d_M_broken_44 rfl ?_
        refine z_iload_n C d_M_broken_45 rfl ?_
        refine z_callV C hKl (cM_gets x k hF hIu hM.1 hx (by omega) hvu) (zgood (fun _ h => h) tw_co_M_gets) rfl (hM.1.1) rfl tw_ml_M_157 tw_im_M_gets tw_se_M_gets tw_in_M pd_M_gets (by decide) rfl (Nat.le_of_ble_eq_true rfl) (by decide) d_M_broken_46 (fun r σ' hp => ?_)
        obtain ⟨rfl, hp⟩ := hp
        have hM := hM.tr hp
        rw [b1]
        refine z_lstore C d_M_broken_49 (by decide) ?_
        refine z_aload_n C d_M_broken_51 rfl ?_
        refine z_iload_n C d_M_broken_52 rfl ?_
        refine z_callV C hKl (cM_takeBack (s 23 0) hF hM.1) (zgood (fun _ h => h) tw_co_M_takeBack) rfl (hM.1.1) rfl tw_ml_M_160 tw_im_M_takeBack tw_se_M_takeBack tw_in_M pd_M_takeBack (by decide) rfl (Nat.le_of_ble_eq_true rfl) (by decide) d_M_broken_53 (fun r σ' hp => ?_)
        obtain ⟨rfl, hp⟩ := hp
        have hM := hM.tr hp
        rw [← e23] at hM
        refine z_lload C d_M_broken_56 rfl ?_
        refine z_lconst C 0 d_M_broken_58 rfl ?_
        refine z_lcmp C (by omega) (by omega) d_M_broken_59 (fun v59 hv59 => ?_)
        refine z_if_ge C 65 (by omega) d_M_broken_60 (by decide) (fun h60 => ?_) (fun h60 => ?_)
        · exact next _ _ _ _ (by omega) b5 b6 b8 (b7.tr hsu) hM
        · refine z_iload_n C d_M_broken_63 rfl ?_
          exact z_iret C d_M_broken_64 (by decide) (by decide) (⟨_, by rw [eb, if_pos (by omega)], b5, b6, b7.tr hsu, hM⟩)
      · refine z_goto C 65 d_M_broken_40 (by decide) ?_
        exact next u _ aa bb (by omega) hIu hvu hcu hsu hM
  refine z_iload_n C d_M_broken_0 rfl ?_
  refine z_if_lt C 12 (by omega) d_M_broken_1 (by decide) (fun h1 => ?_) (fun h1 => ?_)
  · refine z_iconst C d_M_broken_12 ?_
    exact z_iret C d_M_broken_13 (by decide) (by decide) (⟨s, by rw [show sp_broken s i = -1 from if_pos (by omega)], hI, hv, seq.rf s, hM⟩)
  · refine z_iload_n C d_M_broken_4 rfl ?_
    refine z_aload_n C d_M_broken_5 rfl ?_
    refine m_get C hM in_M 1 (by decide) tw_fl_M_13 rfl rfl d_M_broken_6 ?_
    refine z_icmp_lt C 14 (by omega) (by omega) d_M_broken_9 (by decide) (fun h9 => ?_) (fun h9 => ?_)
    · obtain ⟨x, rfl⟩ := Int.eq_ofNat_of_zero_le (show 0 ≤ i by omega)
      have es : sp_broken s x = brk s x 12 0 := if_neg (by omega)
      rw [es]
      refine z_aload_n C d_M_broken_14 rfl ?_
      refine m_get C hM in_M 23 (by decide) tw_fl_M_129 rfl rfl d_M_broken_15 ?_
      refine z_istore_n C d_M_broken_18 (by decide) ?_
      refine z_aload_n C d_M_broken_19 rfl ?_
      refine z_callV C hKl (cM_keepCopies hF hM.1) (zgood (fun _ h => h) tw_co_M_keepCopies) rfl (hM.1.1) rfl tw_ml_M_154 tw_im_M_keepCopies tw_se_M_keepCopies tw_in_M pd_M_keepCopies (by decide) rfl (Nat.le_of_ble_eq_true rfl) (by decide) d_M_broken_20 (fun r σ' hp => ?_)
      obtain ⟨rfl, hp⟩ := hp
      have hM := hM.tr hp
      refine z_iconst C d_M_broken_23 ?_
      refine z_istore_n C d_M_broken_24 (by decide) ?_
      exact loop x (by omega) 12 0 (kcp s 36) (by omega) (kcp_inv hI) hv (kcp_cpd s) (kcp_seq s) none none _ hM
    · refine z_iconst C d_M_broken_12 ?_
      exact z_iret C d_M_broken_13 (by decide) (by decide) (⟨s, by rw [show sp_broken s i = -1 from if_pos (by omega)], hI, hv, seq.rf s, hM⟩)
end MC6
