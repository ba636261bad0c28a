section MC4
variable {l : Launch} {D : va_G} {A : Nat → Prop} {cI cZ cJ cB : ClassId} {F : State → Prop} {m0 : Nat} {ad : Nat → Nat} {σ : zh} {s : St}
set_option maxRecDepth 100000 in
set_option maxHeartbeats 4000000 in
theorem cM_begin (i k : Nat) (hF : zFok F A) (hI : Inv s) (hM : RM cI cZ cJ m0 ad s σ) (hi : i < 3) (hk : k < 12) (hm : MI s) : zM l D vwCl A (ztys cI cZ cJ cB) F y_M_begin ws_M_begin (zroom 1 0 0) [.ref m0, iv (i : Int), iv (k : Int)] σ (fun r σ' => r = some (jv (mbegin s i k).1) ∧ mR cI cZ cJ m0 ad σ (mbegin s i k).2 σ') := by
  refine zMet2 hF (by decide) (Nat.le_of_ble_eq_true rfl) (fun K hKl C => ?_)
  have hM := mR.rf hM
  have htop := hm.top
  have hsr := sn_r hI hi hk
  refine z_aload_n C d_M_begin_0 rfl ?_
  refine z_iload_n C d_M_begin_1 rfl ?_
  refine z_iload_n C d_M_begin_2 rfl ?_
  refine z_callV C hKl (cM_seen i k hF hI hM.1 hi hk) (zgood (fun _ h => h) tw_co_M_seen) rfl (hM.1.1) rfl tw_ml_M_111 tw_im_M_seen tw_se_M_seen tw_in_M pd_M_seen (by decide) rfl (Nat.le_of_ble_eq_true rfl) (by decide) d_M_begin_3 (fun r σ hp => ?_)
  obtain ⟨rfl, rfl⟩ := hp
  refine z_istore_n C d_M_begin_6 (by decide) ?_
  refine z_iload_n C d_M_begin_7 rfl ?_
  refine z_if_ge C 15 (by omega) d_M_begin_8 (by decide) (fun h8 => ?_) (fun h8 => ?_)
  · obtain ⟨p, hp, e, h0, -⟩ := hI.seen hi hk (by omega)
    rw [e]
    have eb : mbegin s i k = mbeginp s p := by
      unfold mbegin
      rw [if_neg (by omega), e, Int.toNat_natCast]
    have hkd := hI.kd p
    have hsc := hI.sc p
    have hsi := hI.si p
    have hre := hI.re p
    have hmd := hI.md
    have hop := hI.op
    have hnu := hI.nu p
    unfold r32 at hnu
    have k165 : ¬ s 5 p = 1 → ¬ (s 5 p = 3 ∧ s 7 p = 1 ∧ s 11 p ≠ 0) → ¬ (s 5 p = 3 ∧ s 7 p = 2 ∧ s 15 0 ≠ 0 ∧ s 12 p ≠ 0) → ¬ wkg s p = true → ¬ (s 5 p = 3 ∧ s 7 p = 2 ∧ s 15 0 = 0) → zJ K D vwCl A 4 (zQ K D vwCl A (fun r σ' => r = some (jv (mbegin s i k).1) ∧ mR cI cZ cJ m0 ad σ (mbegin s i k).2 σ') 0 0) 0 0 σ 165 [some (.ref m0), some (iv (i : Int)), some (iv (k : Int)), some (iv (p : Int))] [] := by
      intro g1 g2 g3 g4 g5
      have hroom := hm.room hp g4
      refine z_aload_n C d_M_begin_165 rfl ?_
      refine m_get C hM in_M 24 (by decide) tw_fl_M_76 rfl rfl d_M_begin_166 ?_
      refine z_aload_n C d_M_begin_169 rfl ?_
      refine m_get C hM in_M 27 (by decide) tw_fl_M_108 rfl rfl d_M_begin_170 ?_
      refine z_iload_n C d_M_begin_173 rfl ?_
      refine m_iast C hM 24 rfl (n := 36) (fun _ => rfl) ((s 27 0).toNat) (by omega) (by omega) (by decide) d_M_begin_174 (fun σ hM => ?_)
      refine z_aload_n C d_M_begin_175 rfl ?_
      refine m_get C hM in_M 25 (by decide) tw_fl_M_79 rfl rfl d_M_begin_176 ?_
      refine z_aload_n C d_M_begin_179 rfl ?_
      refine m_get C hM in_M 27 (by decide) tw_fl_M_108 rfl rfl d_M_begin_180 ?_
      refine z_top (w := iv (s 27 0)) rfl ?_
      refine z_iconst C d_M_begin_183 ?_
      refine m_iast C hM 25 rfl (n := 36) (fun _ => rfl) ((s 27 0).toNat) (by omega) (by omega) (by decide) d_M_begin_184 (fun σ hM => ?_)
      refine z_aload_n C d_M_begin_185 rfl ?_
      refine z_dup C rfl d_M_begin_186 ?_
      refine m_get C hM in_M 27 (by decide) tw_fl_M_108 rfl rfl d_M_begin_187 ?_
      refine z_top (w := iv (s 27 0)) rfl ?_
      refine z_iconst C d_M_begin_190 ?_
      refine z_iadd C d_M_begin_191 ?_
      refine m_put C hM in_M 27 (by decide) rfl tw_fl_M_108 rfl rfl (tk_M 27 (by decide)) rfl rfl rfl d_M_begin_192 (fun σ hM => ?_)
      refine z_ldc2 C (-100) tw_kl_M_127 d_M_begin_195 ?_
      exact z_lret C d_M_begin_198 (by decide) (by decide) (by rw [eb]; unfold mbeginp; rw [if_neg g1, if_neg g2, if_neg g3, if_neg g4, if_neg g5]; exact ⟨rfl, hM⟩)
    have k134 : ¬ s 5 p = 1 → ¬ (s 5 p = 3 ∧ s 7 p = 1 ∧ s 11 p ≠ 0) → ¬ (s 5 p = 3 ∧ s 7 p = 2 ∧ s 15 0 ≠ 0 ∧ s 12 p ≠ 0) → ¬ wkg s p = true → zJ K D vwCl A 4 (zQ K D vwCl A (fun r σ' => r = some (jv (mbegin s i k).1) ∧ mR cI cZ cJ m0 ad σ (mbegin s i k).2 σ') 0 0) 0 0 σ 134 [some (.ref m0), some (iv (i : Int)), some (iv (k : Int)), some (iv (p : Int))] [] := by
      intro g1 g2 g3 g4
      refine z_aload_n C d_M_begin_134 rfl ?_
      refine m_get C hM in_M 5 (by decide) tw_fl_M_24 rfl rfl d_M_begin_135 ?_
      refine z_iload_n C d_M_begin_138 rfl ?_
      refine m_iald C hM 5 rfl (n := 36) (fun _ => rfl) (p) (by omega) (by omega) (by decide) d_M_begin_139 ?_
      refine z_iconst C d_M_begin_140 ?_
      refine z_icmp_ne C 165 (by omega) (by omega) d_M_begin_141 (by decide) (fun h141 => ?_) (fun h141 => ?_)
      · exact k165 g1 g2 g3 g4 (by omega)
      · refine z_aload_n C d_M_begin_144 rfl ?_
        refine m_get C hM in_M 7 (by decide) tw_fl_M_30 rfl rfl d_M_begin_145 ?_
        refine z_iload_n C d_M_begin_148 rfl ?_
        refine m_iald C hM 7 rfl (n := 36) (fun _ => rfl) (p) (by omega) (by omega) (by decide) d_M_begin_149 ?_
        refine z_iconst C d_M_begin_150 ?_
        refine z_icmp_ne C 165 (by omega) (by omega) d_M_begin_151 (by decide) (fun h151 => ?_) (fun h151 => ?_)
        · exact k165 g1 g2 g3 g4 (by omega)
        · refine z_aload_n C d_M_begin_154 rfl ?_
          refine m_get C hM in_M 15 (by decide) tw_fl_M_100 rfl rfl d_M_begin_155 ?_
          refine z_if_ne C 165 (by omega) d_M_begin_158 (by decide) (fun h158 => ?_) (fun h158 => ?_)
          · exact k165 g1 g2 g3 g4 (by omega)
          · refine z_ldc2 C (-4) tw_kl_M_125 d_M_begin_161 ?_
            exact z_lret C d_M_begin_164 (by decide) (by decide) (by rw [eb]; unfold mbeginp; rw [if_neg g1, if_neg g2, if_neg g3, if_neg g4, if_pos (by omega)]; exact ⟨rfl, hM⟩)
    have k122 : ¬ s 5 p = 1 → ¬ (s 5 p = 3 ∧ s 7 p = 1 ∧ s 11 p ≠ 0) → ¬ (s 5 p = 3 ∧ s 7 p = 2 ∧ s 15 0 ≠ 0 ∧ s 12 p ≠ 0) → zJ K D vwCl A 4 (zQ K D vwCl A (fun r σ' => r = some (jv (mbegin s i k).1) ∧ mR cI cZ cJ m0 ad σ (mbegin s i k).2 σ') 0 0) 0 0 σ 122 [some (.ref m0), some (iv (i : Int)), some (iv (k : Int)), some (iv (p : Int))] [] := by
      intro g1 g2 g3
      refine z_aload_n C d_M_begin_122 rfl ?_
      refine z_iload_n C d_M_begin_123 rfl ?_
      refine z_callV C hKl (cM_working p hF hI hM.1 hp hm) (zgood (fun _ h => h) tw_co_M_working) rfl (hM.1.1) rfl tw_ml_M_119 tw_im_M_working tw_se_M_working tw_in_M pd_M_working (by decide) rfl (Nat.le_of_ble_eq_true rfl) (by decide) d_M_begin_124 (fun r σ hq => ?_)
      obtain ⟨rfl, b, rfl, hb⟩ := hq
      refine z_if_eq C 134 (by rcases hb with q | q <;> (have := q.1; omega)) d_M_begin_127 (by decide) (fun h127 => ?_) (fun h127 => ?_)
      · exact k134 g1 g2 g3 (by rcases hb with q | q; exact absurd q.1 (by omega); exact q.2)
      · refine z_ldc2 C (-3) tw_kl_M_123 d_M_begin_130 ?_
        exact z_lret C d_M_begin_133 (by decide) (by decide) (by rw [eb]; unfold mbeginp; rw [if_neg g1, if_neg g2, if_neg g3, if_pos (by rcases hb with q | q; exact q.2; exact absurd q.1 h127)]; exact ⟨rfl, hM⟩)
    have k76 : ¬ s 5 p = 1 → ¬ (s 5 p = 3 ∧ s 7 p = 1 ∧ s 11 p ≠ 0) → zJ K D vwCl A 4 (zQ K D vwCl A (fun r σ' => r = some (jv (mbegin s i k).1) ∧ mR cI cZ cJ m0 ad σ (mbegin s i k).2 σ') 0 0) 0 0 σ 76 [some (.ref m0), some (iv (i : Int)), some (iv (k : Int)), some (iv (p : Int))] [] := by
      intro g1 g2
      refine z_aload_n C d_M_begin_76 rfl ?_
      refine m_get C hM in_M 5 (by decide) tw_fl_M_24 rfl rfl d_M_begin_77 ?_
      refine z_iload_n C d_M_begin_80 rfl ?_
      refine m_iald C hM 5 rfl (n := 36) (fun _ => rfl) (p) (by omega) (by omega) (by decide) d_M_begin_81 ?_
      refine z_iconst C d_M_begin_82 ?_
      refine z_icmp_ne C 122 (by omega) (by omega) d_M_begin_83 (by decide) (fun h83 => ?_) (fun h83 => ?_)
      · exact k122 g1 g2 (by omega)
      · refine z_aload_n C d_M_begin_86 rfl ?_
        refine m_get C hM in_M 7 (by decide) tw_fl_M_30 rfl rfl d_M_begin_87 ?_
        refine z_iload_n C d_M_begin_90 rfl ?_
        refine m_iald C hM 7 rfl (n := 36) (fun _ => rfl) (p) (by omega) (by omega) (by decide) d_M_begin_91 ?_
        refine z_iconst C d_M_begin_92 ?_
        refine z_icmp_ne C 122 (by omega) (by omega) d_M_begin_93 (by decide) (fun h93 => ?_) (fun h93 => ?_)
        · exact k122 g1 g2 (by omega)
        · refine z_aload_n C d_M_begin_96 rfl ?_
          refine m_get C hM in_M 15 (by decide) tw_fl_M_100 rfl rfl d_M_begin_97 ?_
          refine z_if_eq C 122 (by omega) d_M_begin_100 (by decide) (fun h100 => ?_) (fun h100 => ?_)
          · exact k122 g1 g2 (by omega)
          · refine z_aload_n C d_M_begin_103 rfl ?_
            refine m_get C hM in_M 12 (by decide) tw_fl_M_45 rfl rfl d_M_begin_104 ?_
            refine z_iload_n C d_M_begin_107 rfl ?_
            refine m_iald C hM 12 rfl (n := 36) (fun _ => rfl) (p) (by omega) (by omega) (by decide) d_M_begin_108 ?_
            refine z_if_eq C 122 (by omega) d_M_begin_109 (by decide) (fun h109 => ?_) (fun h109 => ?_)
            · exact k122 g1 g2 (by omega)
            · refine z_aload_n C d_M_begin_112 rfl ?_
              refine m_get C hM in_M 12 (by decide) tw_fl_M_45 rfl rfl d_M_begin_113 ?_
              refine z_iload_n C d_M_begin_116 rfl ?_
              refine m_iald C hM 12 rfl (n := 36) (fun _ => rfl) (p) (by omega) (by omega) (by decide) d_M_begin_117 ?_
              refine z_iconst C d_M_begin_118 ?_
              refine z_isub C d_M_begin_119 ?_
              refine z_i2l C (by omega) d_M_begin_120 ?_
              exact z_lret C d_M_begin_121 (by decide) (by decide) (by rw [eb]; unfold mbeginp; rw [if_neg g1, if_neg g2, if_pos ⟨by omega, by omega, by omega, by omega⟩]; exact ⟨rfl, hM⟩)
    refine z_aload_n C d_M_begin_15 rfl ?_
    refine m_get C hM in_M 5 (by decide) tw_fl_M_24 rfl rfl d_M_begin_16 ?_
    refine z_iload_n C d_M_begin_19 rfl ?_
    refine m_iald C hM 5 rfl (n := 36) (fun _ => rfl) (p) (by omega) (by omega) (by decide) d_M_begin_20 ?_
    refine z_iconst C d_M_begin_21 ?_
    refine z_icmp_ne C 37 (by omega) (by omega) d_M_begin_22 (by decide) (fun h22 => ?_) (fun h22 => ?_)
    · refine z_aload_n C d_M_begin_37 rfl ?_
      refine m_get C hM in_M 5 (by decide) tw_fl_M_24 rfl rfl d_M_begin_38 ?_
      refine z_iload_n C d_M_begin_41 rfl ?_
      refine m_iald C hM 5 rfl (n := 36) (fun _ => rfl) (p) (by omega) (by omega) (by decide) d_M_begin_42 ?_
      refine z_iconst C d_M_begin_43 ?_
      refine z_icmp_ne C 76 (by omega) (by omega) d_M_begin_44 (by decide) (fun h44 => ?_) (fun h44 => ?_)
      · exact k76 (by omega) (by omega)
      · refine z_aload_n C d_M_begin_47 rfl ?_
        refine m_get C hM in_M 7 (by decide) tw_fl_M_30 rfl rfl d_M_begin_48 ?_
        refine z_iload_n C d_M_begin_51 rfl ?_
        refine m_iald C hM 7 rfl (n := 36) (fun _ => rfl) (p) (by omega) (by omega) (by decide) d_M_begin_52 ?_
        refine z_iconst C d_M_begin_53 ?_
        refine z_icmp_ne C 76 (by omega) (by omega) d_M_begin_54 (by decide) (fun h54 => ?_) (fun h54 => ?_)
        · exact k76 (by omega) (by omega)
        · refine z_aload_n C d_M_begin_57 rfl ?_
          refine m_get C hM in_M 11 (by decide) tw_fl_M_42 rfl rfl d_M_begin_58 ?_
          refine z_iload_n C d_M_begin_61 rfl ?_
          refine m_iald C hM 11 rfl (n := 36) (fun _ => rfl) (p) (by omega) (by omega) (by decide) d_M_begin_62 ?_
          refine z_if_eq C 76 (by omega) d_M_begin_63 (by decide) (fun h63 => ?_) (fun h63 => ?_)
          · exact k76 (by omega) (by omega)
          · refine z_aload_n C d_M_begin_66 rfl ?_
            refine m_get C hM in_M 11 (by decide) tw_fl_M_42 rfl rfl d_M_begin_67 ?_
            refine z_iload_n C d_M_begin_70 rfl ?_
            refine m_iald C hM 11 rfl (n := 36) (fun _ => rfl) (p) (by omega) (by omega) (by decide) d_M_begin_71 ?_
            refine z_iconst C d_M_begin_72 ?_
            refine z_isub C d_M_begin_73 ?_
            refine z_i2l C (by omega) d_M_begin_74 ?_
            exact z_lret C d_M_begin_75 (by decide) (by decide) (by rw [eb]; unfold mbeginp; rw [if_neg (by omega), if_pos ⟨by omega, by omega, by omega⟩]; exact ⟨rfl, hM⟩)
    · refine z_ldc2 C 10000000000 tw_kl_M_117 d_M_begin_25 ?_
      refine z_aload_n C d_M_begin_28 rfl ?_
      refine m_get C hM in_M 6 (by decide) tw_fl_M_27 rfl rfl d_M_begin_29 ?_
      refine z_iload_n C d_M_begin_32 rfl ?_
      refine m_iald C hM 6 rfl (n := 36) (fun _ => rfl) (p) (by omega) (by omega) (by decide) d_M_begin_33 ?_
      refine z_i2l C (by omega) d_M_begin_34 ?_
      refine z_ladd C d_M_begin_35 ?_
      exact z_lret C d_M_begin_36 (by decide) (by decide) (by rw [eb]; unfold mbeginp; rw [if_pos h22]; exact ⟨rfl, hM⟩)
  · refine z_ldc2 C (-2) tw_kl_M_115 d_M_begin_11 ?_
    exact z_lret C d_M_begin_14 (by decide) (by decide) (by rw [show mbegin s i k = (-2, s) from if_pos (by omega)]; exact ⟨rfl, hM⟩)
set_option maxRecDepth 100000 in
set_option maxHeartbeats 4000000 in
theorem cM_took (v bf : Int) (hF : zFok F A) (hI : Inv s) (hM : RM cI cZ cJ m0 ad s σ) (hm : MI s) (ht : 0 < s 27 0) (rb : -2147483648 ≤ bf ∧ bf ≤ 2147483647) : zM l D vwCl A (ztys cI cZ cJ cB) F y_M_took ws_M_took (zroom 0 0 0) [.ref m0, jv v, iv bf] σ (fun r σ' => ∃ b : Int, r = some (iv b) ∧ ((b = 1 ∧ (s 27 0 = bf ∧ s 5 (s 24 (s 27 0 - 1).toNat).toNat = 2 ∧ s 25 (s 27 0 - 1).toNat = 0) ∧ mR cI cZ cJ m0 ad σ (mtk s v) σ') ∨ (b = 0 ∧ ¬ (s 27 0 = bf ∧ s 5 (s 24 (s 27 0 - 1).toNat).toNat = 2 ∧ s 25 (s 27 0 - 1).toNat = 0) ∧ mR cI cZ cJ m0 ad σ s σ'))) := by
  refine zMet2 hF (by decide) (Nat.le_of_ble_eq_true rfl) (fun K hKl C => ?_)
  have hM := mR.rf hM
  have htop := hm.top
  obtain ⟨f1, f2, -⟩ := hm.fr (j := (s 27 0 - 1).toNat) (by omega)
  have hkd := hI.kd (s 24 (s 27 0 - 1).toNat).toNat
  have hgt := hm.got (j := (s 27 0 - 1).toNat) (by omega)
  refine z_aload_n C d_M_took_0 rfl ?_
  refine m_get C hM in_M 27 (by decide) tw_fl_M_108 rfl rfl d_M_took_1 ?_
  refine z_iload_n C d_M_took_4 rfl ?_
  refine z_icmp_ne C 42 (by omega) (by omega) d_M_took_5 (by decide) (fun h5 => ?_) (fun h5 => ?_)
  · refine z_iconst C d_M_took_42 ?_
    exact z_zret C d_M_took_43 (by decide) (by decide) (by omega) (⟨0, rfl, Or.inr ⟨rfl, fun z => h5 z.1, hM⟩⟩)
  · refine z_aload_n C d_M_took_8 rfl ?_
    refine m_get C hM in_M 5 (by decide) tw_fl_M_24 rfl rfl d_M_took_9 ?_
    refine z_aload_n C d_M_took_12 rfl ?_
    refine m_get C hM in_M 24 (by decide) tw_fl_M_76 rfl rfl d_M_took_13 ?_
    refine z_aload_n C d_M_took_16 rfl ?_
    refine m_get C hM in_M 27 (by decide) tw_fl_M_108 rfl rfl d_M_took_17 ?_
    refine z_iconst C d_M_took_20 ?_
    refine z_isub C d_M_took_21 ?_
    refine m_iald C hM 24 rfl (n := 36) (fun _ => rfl) ((s 27 0 - 1).toNat) (by omega) (by omega) (by decide) d_M_took_22 ?_
    refine m_iald C hM 5 rfl (n := 36) (fun _ => rfl) ((s 24 (s 27 0 - 1).toNat).toNat) (by omega) (by omega) (by decide) d_M_took_23 ?_
    refine z_iconst C d_M_took_24 ?_
    refine z_icmp_ne C 42 (by omega) (by omega) d_M_took_25 (by decide) (fun h25 => ?_) (fun h25 => ?_)
    · refine z_iconst C d_M_took_42 ?_
      exact z_zret C d_M_took_43 (by decide) (by decide) (by omega) (⟨0, rfl, Or.inr ⟨rfl, fun z => h25 z.2.1, hM⟩⟩)
    · refine z_aload_n C d_M_took_28 rfl ?_
      refine m_get C hM in_M 25 (by decide) tw_fl_M_79 rfl rfl d_M_took_29 ?_
      refine z_aload_n C d_M_took_32 rfl ?_
      refine m_get C hM in_M 27 (by decide) tw_fl_M_108 rfl rfl d_M_took_33 ?_
      refine z_iconst C d_M_took_36 ?_
      refine z_isub C d_M_took_37 ?_
      refine m_iald C hM 25 rfl (n := 36) (fun _ => rfl) ((s 27 0 - 1).toNat) (by omega) (by omega) (by decide) d_M_took_38 ?_
      refine z_if_eq C 44 (by omega) d_M_took_39 (by decide) (fun h39 => ?_) (fun h39 => ?_)
      · refine z_aload_n C d_M_took_44 rfl ?_
        refine m_get C hM in_M 26 (by decide) tw_fl_M_82 rfl rfl d_M_took_45 ?_
        refine z_iconst C d_M_took_48 ?_
        refine z_aload_n C d_M_took_49 rfl ?_
        refine m_get C hM in_M 27 (by decide) tw_fl_M_108 rfl rfl d_M_took_50 ?_
        refine z_top (w := iv (s 27 0)) rfl ?_
        refine z_iconst C d_M_took_53 ?_
        refine z_isub C d_M_took_54 ?_
        refine z_imul C d_M_took_55 ?_
        refine z_lload_n C d_M_took_56 rfl ?_
        refine m_last C hM 26 rfl (n := 144) (fun _ => rfl) (4 * (s 27 0 - 1).toNat) (by omega) (by omega) (by decide) d_M_took_57 (fun σ hM => ?_)
        refine z_aload_n C d_M_took_58 rfl ?_
        refine m_get C hM in_M 25 (by decide) tw_fl_M_79 rfl rfl d_M_took_59 ?_
        refine z_aload_n C d_M_took_62 rfl ?_
        refine m_get C hM in_M 27 (by decide) tw_fl_M_108 rfl rfl d_M_took_63 ?_
        refine z_top (w := iv (s 27 0)) rfl ?_
        refine z_iconst C d_M_took_66 ?_
        refine z_isub C d_M_took_67 ?_
        refine z_iconst C d_M_took_68 ?_
        refine m_iast C hM 25 rfl (n := 36) (fun _ => rfl) ((s 27 0 - 1).toNat) (by omega) (by omega) (by decide) d_M_took_69 (fun σ hM => ?_)
        refine z_iconst C d_M_took_70 ?_
        exact z_zret C d_M_took_71 (by decide) (by decide) (by omega) (⟨1, rfl, Or.inl ⟨rfl, ⟨h5, h25, h39⟩, hM⟩⟩)
      · refine z_iconst C d_M_took_42 ?_
        exact z_zret C d_M_took_43 (by decide) (by decide) (by omega) (⟨0, rfl, Or.inr ⟨rfl, fun z => h39 z.2.2, hM⟩⟩)
set_option maxRecDepth 100000 in
set_option maxHeartbeats 4000000 in
theorem cM_make (p w : Nat) (hF : zFok F A) (hI : Inv s) (hM : RM cI cZ cJ m0 ad s σ) (hp : p < 36) (hw : w < 36) : zM l D vwCl A (ztys cI cZ cJ cB) F y_M_make ws_M_make (zroom 0 0 0) [.ref m0, iv (p : Int), iv (w : Int)] σ (fun r σ' => r = some (jv (mmake s p w).1) ∧ mR cI cZ cJ m0 ad σ (mmake s p w).2 σ') := by
  refine zMet2 hF (by decide) (Nat.le_of_ble_eq_true rfl) (fun K hKl C => ?_)
  have hM := mR.rf hM
  have hmd := hI.md
  have hnn := hI.nn p
  have hsc := hI.sc p
  have loop : s 23 0 ≠ 100 → ∀ (n j : Nat), j + n = (s 8 p).toNat → ∀ (σ1 : zh), mR cI cZ cJ m0 ad σ (mk2 s p w j) σ1 → zJ K D vwCl A 5 (zQ K D vwCl A (fun r σ' => r = some (jv (mmake s p w).1) ∧ mR cI cZ cJ m0 ad σ (mmake s p w).2 σ') 0 0) 0 0 σ1 65 [some (.ref m0), some (iv (p : Int)), some (iv (w : Int)), some (iv (s 23 0)), some (iv (j : Int))] [] := by
    intro hne n
    have em : mmake s p w = (s 23 0, mk s p (fun k => s 26 (4 * w + k))) := if_neg hne
    induction n with
    | zero =>
      intro j hj σ1 hM
      have e : j = (s 8 p).toNat := by omega
      subst e
      refine z_iload C d_M_make_65 rfl ?_
      refine z_aload_n C d_M_make_67 rfl ?_
      refine m_get C hM in_M 8 (by decide) tw_fl_M_33 rfl rfl d_M_make_68 ?_
      refine z_iload_n C d_M_make_71 rfl ?_
      refine m_iald C hM 8 rfl (n := 36) (fun _ => rfl) (p) (by omega) (by omega) (by decide) d_M_make_72 ?_
      refine z_top (w := iv (s 8 p)) rfl ?_
      refine z_icmp_ge C 148 (by omega) (by omega) d_M_make_73 (by decide) (fun h73 => ?_) (fun h73 => absurd h73 (by omega))
      refine z_aload_n C d_M_make_148 rfl ?_
      refine z_dup C rfl d_M_make_149 ?_
      refine m_get C hM in_M 23 (by decide) tw_fl_M_129 rfl rfl d_M_make_150 ?_
      refine z_top (w := iv (s 23 0)) rfl ?_
      refine z_iconst C d_M_make_153 ?_
      refine z_iadd C d_M_make_154 ?_
      refine m_put C hM in_M 23 (by decide) rfl tw_fl_M_129 rfl rfl (tk_M 23 (by decide)) rfl rfl rfl d_M_make_155 (fun σ hM => ?_)
      have hM : mR cI cZ cJ m0 ad _ (mk3 s p w) σ := hM
      refine z_aload_n C d_M_make_158 rfl ?_
      refine m_get C hM in_M 7 (by decide) tw_fl_M_30 rfl rfl d_M_make_159 ?_
      refine z_iload_n C d_M_make_162 rfl ?_
      refine m_iald C hM 7 rfl (n := 36) (fun _ => rfl) (p) (by omega) (by omega) (by decide) d_M_make_163 ?_
      refine z_top (w := iv (s 7 p)) rfl ?_
      refine z_iconst C d_M_make_164 ?_
      refine z_icmp_ne C 178 (by omega) (by omega) d_M_make_165 (by decide) (fun h165 => ?_) (fun h165 => ?_)
      · refine z_aload_n C d_M_make_178 rfl ?_
        refine m_get C hM in_M 7 (by decide) tw_fl_M_30 rfl rfl d_M_make_179 ?_
        refine z_iload_n C d_M_make_182 rfl ?_
        refine m_iald C hM 7 rfl (n := 36) (fun _ => rfl) (p) (by omega) (by omega) (by decide) d_M_make_183 ?_
        refine z_top (w := iv (s 7 p)) rfl ?_
        refine z_iconst C d_M_make_184 ?_
        refine z_icmp_ne C 198 (by omega) (by omega) d_M_make_185 (by decide) (fun h185 => ?_) (fun h185 => ?_)
        · refine z_iload_n C d_M_make_198 rfl ?_
          refine z_i2l C (by omega) d_M_make_199 ?_
          exact z_lret C d_M_make_200 (by decide) (by decide) (by rw [em, ← mk3_n h165 h185]; exact ⟨rfl, hM⟩)
        · refine z_aload_n C d_M_make_188 rfl ?_
          refine m_get C hM in_M 12 (by decide) tw_fl_M_45 rfl rfl d_M_make_189 ?_
          refine z_iload_n C d_M_make_192 rfl ?_
          refine z_aload_n C d_M_make_193 rfl ?_
          refine m_get C hM in_M 23 (by decide) tw_fl_M_129 rfl rfl d_M_make_194 ?_
          refine z_top (w := iv (s 23 0 + 1)) rfl ?_
          refine m_iast C hM 12 rfl (n := 36) (fun _ => rfl) (p) (by omega) (by omega) (by decide) d_M_make_197 (fun σ hM => ?_)
          refine z_iload_n C d_M_make_198 rfl ?_
          refine z_i2l C (by omega) d_M_make_199 ?_
          exact z_lret C d_M_make_200 (by decide) (by decide) (by rw [em, ← mk3_2 h185]; exact ⟨rfl, hM⟩)
      · refine z_aload_n C d_M_make_168 rfl ?_
        refine m_get C hM in_M 11 (by decide) tw_fl_M_42 rfl rfl d_M_make_169 ?_
        refine z_iload_n C d_M_make_172 rfl ?_
        refine z_aload_n C d_M_make_173 rfl ?_
        refine m_get C hM in_M 23 (by decide) tw_fl_M_129 rfl rfl d_M_make_174 ?_
        refine z_top (w := iv (s 23 0 + 1)) rfl ?_
        refine m_iast C hM 11 rfl (n := 36) (fun _ => rfl) (p) (by omega) (by omega) (by decide) d_M_make_177 (fun σ hM => ?_)
        refine z_aload_n C d_M_make_178 rfl ?_
        refine m_get C hM in_M 7 (by decide) tw_fl_M_30 rfl rfl d_M_make_179 ?_
        refine z_iload_n C d_M_make_182 rfl ?_
        refine m_iald C hM 7 rfl (n := 36) (fun _ => rfl) (p) (by omega) (by omega) (by decide) d_M_make_183 ?_
        refine z_top (w := iv (s 7 p)) rfl ?_
        refine z_iconst C d_M_make_184 ?_
        refine z_icmp_ne C 198 (by omega) (by omega) d_M_make_185 (by decide) (fun h185 => ?_) (fun h185 => absurd h185 (by omega))
        refine z_iload_n C d_M_make_198 rfl ?_
        refine z_i2l C (by omega) d_M_make_199 ?_
        exact z_lret C d_M_make_200 (by decide) (by decide) (by rw [em, ← mk3_1 h165]; exact ⟨rfl, hM⟩)
    | succ n ih =>
      intro j hj σ1 hM
      have hnk := hI.nk (4 * p + j)
      have hnz := hI.nz (4 * p + j)
      refine z_iload C d_M_make_65 rfl ?_
      refine z_aload_n C d_M_make_67 rfl ?_
      refine m_get C hM in_M 8 (by decide) tw_fl_M_33 rfl rfl d_M_make_68 ?_
      refine z_iload_n C d_M_make_71 rfl ?_
      refine m_iald C hM 8 rfl (n := 36) (fun _ => rfl) (p) (by omega) (by omega) (by decide) d_M_make_72 ?_
      refine z_top (w := iv (s 8 p)) rfl ?_
      refine z_icmp_ge C 148 (by omega) (by omega) d_M_make_73 (by decide) (fun h73 => absurd h73 (by omega)) (fun h73 => ?_)
      refine z_aload_n C d_M_make_76 rfl ?_
      refine m_get C hM in_M 20 (by decide) tw_fl_M_66 rfl rfl d_M_make_77 ?_
      refine z_iconst C d_M_make_80 ?_
      refine z_iload_n C d_M_make_81 rfl ?_
      refine z_imul C d_M_make_82 ?_
      refine z_iload C d_M_make_83 rfl ?_
      refine z_iadd C d_M_make_85 ?_
      refine z_aload_n C d_M_make_86 rfl ?_
      refine m_get C hM in_M 9 (by decide) tw_fl_M_36 rfl rfl d_M_make_87 ?_
      refine z_iconst C d_M_make_90 ?_
      refine z_iload_n C d_M_make_91 rfl ?_
      refine z_imul C d_M_make_92 ?_
      refine z_iload C d_M_make_93 rfl ?_
      refine z_iadd C d_M_make_95 ?_
      refine m_iald C hM 9 rfl (n := 144) (fun _ => rfl) (4 * p + j) (by omega) (by omega) (by decide) d_M_make_96 ?_
      refine z_top (w := iv (s 9 (4 * p + j))) rfl ?_
      refine m_iast C hM 20 rfl (n := 400) (fun _ => rfl) (4 * (s 23 0).toNat + j) (by omega) (by omega) (by decide) d_M_make_97 (fun σ hM => ?_)
      refine z_aload_n C d_M_make_98 rfl ?_
      refine m_get C hM in_M 21 (by decide) tw_fl_M_69 rfl rfl d_M_make_99 ?_
      refine z_iconst C d_M_make_102 ?_
      refine z_iload_n C d_M_make_103 rfl ?_
      refine z_imul C d_M_make_104 ?_
      refine z_iload C d_M_make_105 rfl ?_
      refine z_iadd C d_M_make_107 ?_
      refine z_aload_n C d_M_make_108 rfl ?_
      refine m_get C hM in_M 10 (by decide) tw_fl_M_39 rfl rfl d_M_make_109 ?_
      refine z_iconst C d_M_make_112 ?_
      refine z_iload_n C d_M_make_113 rfl ?_
      refine z_imul C d_M_make_114 ?_
      refine z_iload C d_M_make_115 rfl ?_
      refine z_iadd C d_M_make_117 ?_
      refine m_zald C hM 10 rfl (n := 144) (fun _ => rfl) (4 * p + j) (by omega) (by omega) (by decide) d_M_make_118 ?_
      refine z_top (w := iv (s 10 (4 * p + j))) rfl ?_
      refine m_zast C hM 21 rfl (n := 400) (fun _ => rfl) (4 * (s 23 0).toNat + j) (by omega) (by omega) (by decide) (by omega) d_M_make_119 (fun σ hM => ?_)
      refine z_aload_n C d_M_make_120 rfl ?_
      refine m_get C hM in_M 22 (by decide) tw_fl_M_72 rfl rfl d_M_make_121 ?_
      refine z_iconst C d_M_make_124 ?_
      refine z_iload_n C d_M_make_125 rfl ?_
      refine z_imul C d_M_make_126 ?_
      refine z_iload C d_M_make_127 rfl ?_
      refine z_iadd C d_M_make_129 ?_
      refine z_aload_n C d_M_make_130 rfl ?_
      refine m_get C hM in_M 26 (by decide) tw_fl_M_82 rfl rfl d_M_make_131 ?_
      refine z_iconst C d_M_make_134 ?_
      refine z_iload_n C d_M_make_135 rfl ?_
      refine z_imul C d_M_make_136 ?_
      refine z_iload C d_M_make_137 rfl ?_
      refine z_iadd C d_M_make_139 ?_
      refine m_lald C hM 26 rfl (n := 144) (fun _ => rfl) (4 * w + j) (by omega) (by omega) (by decide) d_M_make_140 ?_
      refine z_top (w := jv (s 26 (4 * w + j))) rfl ?_
      refine m_last C hM 22 rfl (n := 400) (fun _ => rfl) (4 * (s 23 0).toNat + j) (by omega) (by omega) (by decide) d_M_make_141 (fun σ hM => ?_)
      rw [mk2_1] at hM
      refine z_iinc C d_M_make_142 rfl (by decide) ?_
      refine z_goto C 65 d_M_make_145 (by decide) ?_
      exact ih (j + 1) (by omega) σ hM
  refine z_aload_n C d_M_make_0 rfl ?_
  refine m_get C hM in_M 23 (by decide) tw_fl_M_129 rfl rfl d_M_make_1 ?_
  refine z_bipush C d_M_make_4 (by decide) ?_
  refine z_icmp_ne C 13 (by omega) (by omega) d_M_make_6 (by decide) (fun h6 => ?_) (fun h6 => ?_)
  · refine z_aload_n C d_M_make_13 rfl ?_
    refine m_get C hM in_M 23 (by decide) tw_fl_M_129 rfl rfl d_M_make_14 ?_
    refine z_istore_n C d_M_make_17 (by decide) ?_
    refine z_aload_n C d_M_make_18 rfl ?_
    refine m_get C hM in_M 16 (by decide) tw_fl_M_54 rfl rfl d_M_make_19 ?_
    refine z_iload_n C d_M_make_22 rfl ?_
    refine z_iload_n C d_M_make_23 rfl ?_
    refine z_bipush C d_M_make_24 (by decide) ?_
    refine z_irem C (by omega) (by omega) d_M_make_26 ?_
    refine z_top (w := iv ((p % 12 : Nat) : Int)) (by rw [show (p : Int) % 12 = ((p % 12 : Nat) : Int) from by omega]) ?_
    refine m_iast C hM 16 rfl (n := 100) (fun _ => rfl) ((s 23 0).toNat) (by omega) (by omega) (by decide) d_M_make_27 (fun σ hM => ?_)
    refine z_aload_n C d_M_make_28 rfl ?_
    refine m_get C hM in_M 17 (by decide) tw_fl_M_57 rfl rfl d_M_make_29 ?_
    refine z_iload_n C d_M_make_32 rfl ?_
    refine z_iload_n C d_M_make_33 rfl ?_
    refine z_bipush C d_M_make_34 (by decide) ?_
    refine z_idiv C (by omega) (by omega) d_M_make_36 ?_
    refine z_top (w := iv ((p / 12 : Nat) : Int)) (by rw [show (p : Int) / 12 = ((p / 12 : Nat) : Int) from by omega]) ?_
    refine m_iast C hM 17 rfl (n := 100) (fun _ => rfl) ((s 23 0).toNat) (by omega) (by omega) (by decide) d_M_make_37 (fun σ hM => ?_)
    refine z_aload_n C d_M_make_38 rfl ?_
    refine m_get C hM in_M 18 (by decide) tw_fl_M_60 rfl rfl d_M_make_39 ?_
    refine z_iload_n C d_M_make_42 rfl ?_
    refine z_aload_n C d_M_make_43 rfl ?_
    refine m_get C hM in_M 7 (by decide) tw_fl_M_30 rfl rfl d_M_make_44 ?_
    refine z_iload_n C d_M_make_47 rfl ?_
    refine m_iald C hM 7 rfl (n := 36) (fun _ => rfl) (p) (by omega) (by omega) (by decide) d_M_make_48 ?_
    refine z_top (w := iv (s 7 p)) rfl ?_
    refine m_iast C hM 18 rfl (n := 100) (fun _ => rfl) ((s 23 0).toNat) (by omega) (by omega) (by decide) d_M_make_49 (fun σ hM => ?_)
    refine z_aload_n C d_M_make_50 rfl ?_
    refine m_get C hM in_M 19 (by decide) tw_fl_M_63 rfl rfl d_M_make_51 ?_
    refine z_iload_n C d_M_make_54 rfl ?_
    refine z_aload_n C d_M_make_55 rfl ?_
    refine m_get C hM in_M 8 (by decide) tw_fl_M_33 rfl rfl d_M_make_56 ?_
    refine z_iload_n C d_M_make_59 rfl ?_
    refine m_iald C hM 8 rfl (n := 36) (fun _ => rfl) (p) (by omega) (by omega) (by decide) d_M_make_60 ?_
    refine z_top (w := iv (s 8 p)) rfl ?_
    refine m_iast C hM 19 rfl (n := 100) (fun _ => rfl) ((s 23 0).toNat) (by omega) (by omega) (by decide) d_M_make_61 (fun σ hM => ?_)
    refine z_iconst C d_M_make_62 ?_
    refine z_istore C d_M_make_63 (by decide) ?_
    exact loop h6 (s 8 p).toNat 0 (by omega) σ (by rw [mk2_0]; exact hM)
  · refine z_ldc2 C (-5) tw_kl_M_132 d_M_make_9 ?_
    exact z_lret C d_M_make_12 (by decide) (by decide) (by rw [show mmake s p w = (-5, s) from if_pos h6]; exact ⟨rfl, hM⟩)
end MC4
