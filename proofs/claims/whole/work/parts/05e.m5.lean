section MC5
variable {l : Launch} {D : va_G} {A : Nat → Prop} {cI cZ cJ cB : ClassId} {F : State → Prop} {m0 : Nat} {ad : Nat → Nat} {σ : zh} {s : St}
set_option maxRecDepth 100000 in
set_option maxHeartbeats 4000000 in
theorem cM_work  (hF : zFok F A) (hI : Inv s) (hM : RM cI cZ cJ m0 ad s σ) (hm : MI s) (ht : 0 < s 27 0) : zM l D vwCl A (ztys cI cZ cJ cB) F y_M_work ws_M_work (zroom 2 0 0) [.ref m0] σ (fun r σ' => r = some (jv (mwork s).1) ∧ mR cI cZ cJ m0 ad σ (mwork s).2 σ') := by
  refine zMet2 hF (by decide) (Nat.le_of_ble_eq_true rfl) (fun K hKl C => ?_)
  have hM := mR.rf hM
  have htop := hm.top
  obtain ⟨t, et⟩ := Int.eq_ofNat_of_zero_le (show 0 ≤ s 27 0 - 1 by omega)
  have t27 : s 27 0 = (t : Int) + 1 := by omega
  obtain ⟨f1, f2, f3⟩ := hm.fr (j := t) (by omega)
  obtain ⟨p, ep⟩ := Int.eq_ofNat_of_zero_le f1
  rw [ep, Int.toNat_natCast] at f3
  have hp36 : p < 36 := by omega
  have ew : mwork s = mworkp s t p := mwork_at t27 ep
  have hkd := hI.kd p
  have hgt := hm.got (j := t) (by omega)
  have loop : ∀ (n : Nat) (u : St), Inv u → MI u → u 27 0 = (t : Int) + 1 → u 24 t = (p : Int) → u 5 p = 3 → ¬ (u 7 p = 2 ∧ u 15 0 = 0) → n = (u 8 p - u 25 t).toNat → ∀ (aa bb cc : Option Value) (σ1 : zh), mR cI cZ cJ m0 ad σ u σ1 → zJ K D vwCl A 6 (zQ K D vwCl A (fun r σ' => r = some (jv (mneeds p t n u).1) ∧ mR cI cZ cJ m0 ad σ (mneeds p t n u).2 σ') 0 0) 0 0 σ1 59 [some (.ref m0), some (iv (t : Int)), some (iv (p : Int)), aa, bb, cc] [] := by
    intro n
    induction n with
    | zero =>
      intro u hIu hmu h27 h24 h5 hno hn aa bb cc σ1 hM
      have hnn := hIu.nn p
      have hgu := hmu.got (j := t) (by omega)
      refine z_aload_n C d_M_work_59 rfl ?_
      refine m_get C hM in_M 25 (by decide) tw_fl_M_79 rfl rfl d_M_work_60 ?_
      refine z_iload_n C d_M_work_63 rfl ?_
      refine m_iald C hM 25 rfl (n := 36) (fun _ => rfl) (t) (by omega) (by omega) (by decide) d_M_work_64 ?_
      refine z_aload_n C d_M_work_65 rfl ?_
      refine m_get C hM in_M 8 (by decide) tw_fl_M_33 rfl rfl d_M_work_66 ?_
      refine z_iload_n C d_M_work_69 rfl ?_
      refine m_iald C hM 8 rfl (n := 36) (fun _ => rfl) (p) (by omega) (by omega) (by decide) d_M_work_70 ?_
      refine z_icmp_ge C 173 (by omega) (by omega) d_M_work_71 (by decide) (fun h71 => ?_) (fun h71 => absurd h71 (by omega))
      refine z_aload_n C d_M_work_173 rfl ?_
      refine z_iload_n C d_M_work_174 rfl ?_
      refine z_iload_n C d_M_work_175 rfl ?_
      refine z_callV C hKl (cM_make p t hF hIu hM.1 hp36 (by omega)) (zgood (fun _ h => h) tw_co_M_make) rfl (hM.1.1) rfl tw_ml_M_140 tw_im_M_make tw_se_M_make tw_in_M pd_M_make (by decide) rfl (Nat.le_of_ble_eq_true rfl) (by decide) d_M_work_176 (fun r σ' hp => ?_)
      obtain ⟨rfl, hp⟩ := hp
      exact z_lret C d_M_work_179 (by decide) (by decide) (⟨rfl, hM.tr hp⟩)
    | succ n ih =>
      intro u hIu hmu h27 h24 h5 hno hn aa bb cc σ1 hM
      have hnn := hIu.nn p
      have hgu := hmu.got (j := t) (by omega)
      obtain ⟨g, hg⟩ := Int.eq_ofNat_of_zero_le hgu.1
      have hnk := hIu.nk (4 * p + g)
      have hnz := hIu.nz (4 * p + g)
      have es : mneeds p t (n + 1) u = if (mone u p t).1 < 0 then mone u p t else mneeds p t n (mput (mone u p t).2 t (mone u p t).1) := rfl
      obtain ⟨⟨o1, o2, o3, o4⟩, o5⟩ := mone_ok (me := t) hIu hmu hp36 (by omega) (by omega)
      have tail : ∀ σ2 : zh, mR cI cZ cJ m0 ad σ (mone u p t).2 σ2 → ∀ bb cc : Option Value, zJ K D vwCl A 6 (zQ K D vwCl A (fun r σ' => r = some (jv (mneeds p t (n + 1) u).1) ∧ mR cI cZ cJ m0 ad σ (mneeds p t (n + 1) u).2 σ') 0 0) 0 0 σ2 131 [some (.ref m0), some (iv (t : Int)), some (iv (p : Int)), some (iv ((4 * p + g : Nat) : Int)), bb, cc] [jv (mone u p t).1] := by
        intro σ2 hM bb cc
        refine z_lstore C d_M_work_131 (by decide) ?_
        refine z_lload C d_M_work_133 rfl ?_
        refine z_lconst C 0 d_M_work_135 rfl ?_
        refine z_lcmp C (by omega) (by omega) d_M_work_136 (fun v136 hv136 => ?_)
        refine z_if_ge C 143 (by omega) d_M_work_137 (by decide) (fun h137 => ?_) (fun h137 => ?_)
        · rw [o5 (by omega)] at hM
          refine z_aload_n C d_M_work_143 rfl ?_
          refine m_get C hM in_M 26 (by decide) tw_fl_M_82 rfl rfl d_M_work_144 ?_
          refine z_iconst C d_M_work_147 ?_
          refine z_iload_n C d_M_work_148 rfl ?_
          refine z_imul C d_M_work_149 ?_
          refine z_aload_n C d_M_work_150 rfl ?_
          refine m_get C hM in_M 25 (by decide) tw_fl_M_79 rfl rfl d_M_work_151 ?_
          refine z_iload_n C d_M_work_154 rfl ?_
          refine m_iald C hM 25 rfl (n := 36) (fun _ => rfl) (t) (by omega) (by omega) (by decide) d_M_work_155 ?_
          refine z_top (w := iv (g : Int)) (by rw [hg]) ?_
          refine z_iadd C d_M_work_156 ?_
          refine z_lload C d_M_work_157 rfl ?_
          refine m_last C hM 26 rfl (n := 144) (fun _ => rfl) (4 * t + g) (by omega) (by omega) (by decide) d_M_work_159 (fun σ hM => ?_)
          refine z_aload_n C d_M_work_160 rfl ?_
          refine m_get C hM in_M 25 (by decide) tw_fl_M_79 rfl rfl d_M_work_161 ?_
          refine z_iload_n C d_M_work_164 rfl ?_
          refine z_dup2 C rfl rfl d_M_work_165 ?_
          refine m_iald C hM 25 rfl (n := 36) (fun _ => rfl) (t) (by omega) (by omega) (by decide) d_M_work_166 ?_
          refine z_top (w := iv (g : Int)) (by show iv (u 25 t) = _; rw [hg]) ?_
          refine z_iconst C d_M_work_167 ?_
          refine z_iadd C d_M_work_168 ?_
          refine m_iast C hM 25 rfl (n := 36) (fun _ => rfl) (t) (by omega) (by omega) (by decide) d_M_work_169 (fun σ hM => ?_)
          have emp : mput u t (mone u p t).1 = sup (sup u 26 (4 * t + g) (mone u p t).1) 25 t ((g : Int) + 1) := by
            unfold mput
            rw [hg, Int.toNat_natCast]
          rw [← emp] at hM
          refine z_goto C 59 d_M_work_170 (by decide) ?_
          rw [es, if_neg (by omega), o5 (by omega)]
          exact ih (mput u t (mone u p t).1) (Inv_sem (sem_mput (fun _ _ => rfl) t _) hIu) (hmu.put (by omega) (by omega) (by omega)) (by rw [mput_27]; exact h27) h24 h5 hno (by
            rw [mput_25, iup_s]
            show n = (u 8 p - (u 25 t + 1)).toNat
            omega) _ _ _ σ hM
        · refine z_lload C d_M_work_140 rfl ?_
          exact z_lret C d_M_work_142 (by decide) (by decide) (by rw [es, if_pos (by omega)]; exact ⟨rfl, hM⟩)
      refine z_aload_n C d_M_work_59 rfl ?_
      refine m_get C hM in_M 25 (by decide) tw_fl_M_79 rfl rfl d_M_work_60 ?_
      refine z_iload_n C d_M_work_63 rfl ?_
      refine m_iald C hM 25 rfl (n := 36) (fun _ => rfl) (t) (by omega) (by omega) (by decide) d_M_work_64 ?_
      refine z_aload_n C d_M_work_65 rfl ?_
      refine m_get C hM in_M 8 (by decide) tw_fl_M_33 rfl rfl d_M_work_66 ?_
      refine z_iload_n C d_M_work_69 rfl ?_
      refine m_iald C hM 8 rfl (n := 36) (fun _ => rfl) (p) (by omega) (by omega) (by decide) d_M_work_70 ?_
      refine z_icmp_ge C 173 (by omega) (by omega) d_M_work_71 (by decide) (fun h71 => absurd h71 (by omega)) (fun h71 => ?_)
      refine z_iconst C d_M_work_74 ?_
      refine z_iload_n C d_M_work_75 rfl ?_
      refine z_imul C d_M_work_76 ?_
      refine z_aload_n C d_M_work_77 rfl ?_
      refine m_get C hM in_M 25 (by decide) tw_fl_M_79 rfl rfl d_M_work_78 ?_
      refine z_iload_n C d_M_work_81 rfl ?_
      refine m_iald C hM 25 rfl (n := 36) (fun _ => rfl) (t) (by omega) (by omega) (by decide) d_M_work_82 ?_
      refine z_top (w := iv (g : Int)) (by rw [hg]) ?_
      refine z_iadd C d_M_work_83 ?_
      refine z_top (w := iv ((4 * p + g : Nat) : Int)) (by rw [show 4 * (p : Int) + (g : Int) = (((4 * p + g : Nat)) : Int) from by omega]) ?_
      refine z_istore_n C d_M_work_84 (by decide) ?_
      refine z_aload_n C d_M_work_85 rfl ?_
      refine m_get C hM in_M 10 (by decide) tw_fl_M_39 rfl rfl d_M_work_86 ?_
      refine z_iload_n C d_M_work_89 rfl ?_
      refine m_zald C hM 10 rfl (n := 144) (fun _ => rfl) (4 * p + g) (by omega) (by omega) (by decide) d_M_work_90 ?_
      refine z_if_eq C 117 (by omega) d_M_work_91 (by decide) (fun h91 => ?_) (fun h91 => ?_)
      · refine z_aload_n C d_M_work_117 rfl ?_
        refine z_iload_n C d_M_work_118 rfl ?_
        refine z_bipush C d_M_work_119 (by decide) ?_
        refine z_idiv C (by omega) (by omega) d_M_work_121 ?_
        refine z_top (w := iv ((p / 12 : Nat) : Int)) (by rw [show (p : Int) / 12 = ((p / 12 : Nat) : Int) from by omega]) ?_
        refine z_aload_n C d_M_work_122 rfl ?_
        refine m_get C hM in_M 9 (by decide) tw_fl_M_36 rfl rfl d_M_work_123 ?_
        refine z_iload_n C d_M_work_126 rfl ?_
        refine m_iald C hM 9 rfl (n := 144) (fun _ => rfl) (4 * p + g) (by omega) (by omega) (by decide) d_M_work_127 ?_
        refine z_top (w := iv (((u 9 (4 * p + g)).toNat : Nat) : Int)) (by rw [show u 9 (4 * p + g) = (((u 9 (4 * p + g)).toNat : Nat) : Int) from by omega, Int.toNat_natCast]) ?_
        refine z_callV C hKl (cM_begin (p / 12) (u 9 (4 * p + g)).toNat hF hIu hM.1 (by omega) (by omega) hmu) (zgood (fun _ h => h) tw_co_M_begin) rfl (hM.1.1) rfl tw_ml_M_134 tw_im_M_begin tw_se_M_begin tw_in_M pd_M_begin (by decide) rfl (Nat.le_of_ble_eq_true rfl) (by decide) d_M_work_128 (fun r σ' hp => ?_)
        obtain ⟨rfl, hp⟩ := hp
        have hM := hM.tr hp
        have em : mone u p t = mbegin u (p / 12) (u 9 (4 * p + g)).toNat := by
          unfold mone
          rw [hg, Int.toNat_natCast, if_neg (by omega)]
        have j := tail σ' (by rw [em]; exact hM) bb cc
        rw [em] at j
        exact j
      · refine z_ldc2 C 20000000000 tw_kl_M_138 d_M_work_94 ?_
        refine z_bipush C d_M_work_97 (by decide) ?_
        refine z_iload_n C d_M_work_99 rfl ?_
        refine z_bipush C d_M_work_100 (by decide) ?_
        refine z_idiv C (by omega) (by omega) d_M_work_102 ?_
        refine z_top (w := iv ((p / 12 : Nat) : Int)) (by rw [show (p : Int) / 12 = ((p / 12 : Nat) : Int) from by omega]) ?_
        refine z_imul C d_M_work_103 ?_
        refine z_i2l C (by omega) d_M_work_104 ?_
        refine z_ladd C d_M_work_105 ?_
        refine z_aload_n C d_M_work_106 rfl ?_
        refine m_get C hM in_M 9 (by decide) tw_fl_M_36 rfl rfl d_M_work_107 ?_
        refine z_iload_n C d_M_work_110 rfl ?_
        refine m_iald C hM 9 rfl (n := 144) (fun _ => rfl) (4 * p + g) (by omega) (by omega) (by decide) d_M_work_111 ?_
        refine z_i2l C (by omega) d_M_work_112 ?_
        refine z_ladd C d_M_work_113 ?_
        refine z_goto C 131 d_M_work_114 (by decide) ?_
        have em : mone u p t = (20000000000 + 16 * ((p / 12 : Nat) : Int) + u 9 (4 * p + g), u) := by
          unfold mone
          rw [hg, Int.toNat_natCast, if_pos (by omega)]
        have j := tail σ1 (by rw [em]; exact hM) bb cc
        rw [em] at j
        exact j
  refine z_aload_n C d_M_work_0 rfl ?_
  refine m_get C hM in_M 27 (by decide) tw_fl_M_108 rfl rfl d_M_work_1 ?_
  refine z_iconst C d_M_work_4 ?_
  refine z_isub C d_M_work_5 ?_
  refine z_top (w := iv (t : Int)) (by rw [et]) ?_
  refine z_istore_n C d_M_work_6 (by decide) ?_
  refine z_aload_n C d_M_work_7 rfl ?_
  refine m_get C hM in_M 24 (by decide) tw_fl_M_76 rfl rfl d_M_work_8 ?_
  refine z_iload_n C d_M_work_11 rfl ?_
  refine m_iald C hM 24 rfl (n := 36) (fun _ => rfl) (t) (by omega) (by omega) (by decide) d_M_work_12 ?_
  refine z_top (w := iv (p : Int)) (by rw [ep]) ?_
  refine z_istore_n C d_M_work_13 (by decide) ?_
  refine z_aload_n C d_M_work_14 rfl ?_
  refine m_get C hM in_M 5 (by decide) tw_fl_M_24 rfl rfl d_M_work_15 ?_
  refine z_iload_n C d_M_work_18 rfl ?_
  refine m_iald C hM 5 rfl (n := 36) (fun _ => rfl) (p) (by omega) (by omega) (by decide) d_M_work_19 ?_
  refine z_iconst C d_M_work_20 ?_
  refine z_icmp_ne C 59 (by omega) (by omega) d_M_work_21 (by decide) (fun h21 => ?_) (fun h21 => ?_)
  · rw [ew, show mworkp s t p = mneeds p t (s 8 p - s 25 t).toNat s from by unfold mworkp; rw [if_neg (by omega)]]
    rcases f3 with f3 | f3
    · exact absurd f3 (by omega)
    · exact loop _ s hI hm t27 ep f3.1 f3.2 rfl none none none σ hM
  · refine z_aload_n C d_M_work_24 rfl ?_
    refine m_get C hM in_M 25 (by decide) tw_fl_M_79 rfl rfl d_M_work_25 ?_
    refine z_iload_n C d_M_work_28 rfl ?_
    refine m_iald C hM 25 rfl (n := 36) (fun _ => rfl) (t) (by omega) (by omega) (by decide) d_M_work_29 ?_
    refine z_if_ne C 50 (by omega) d_M_work_30 (by decide) (fun h30 => ?_) (fun h30 => ?_)
    · refine z_aload_n C d_M_work_50 rfl ?_
      refine m_get C hM in_M 26 (by decide) tw_fl_M_82 rfl rfl d_M_work_51 ?_
      refine z_iconst C d_M_work_54 ?_
      refine z_iload_n C d_M_work_55 rfl ?_
      refine z_imul C d_M_work_56 ?_
      refine m_lald C hM 26 rfl (n := 144) (fun _ => rfl) (4 * t) (by omega) (by omega) (by decide) d_M_work_57 ?_
      exact z_lret C d_M_work_58 (by decide) (by decide) (by rw [ew, show mworkp s t p = (s 26 (4 * t), s) from by unfold mworkp; rw [if_pos (by omega), if_neg (by omega)]]; exact ⟨rfl, hM⟩)
    · refine z_aload_n C d_M_work_33 rfl ?_
      refine z_iload_n C d_M_work_34 rfl ?_
      refine z_bipush C d_M_work_35 (by decide) ?_
      refine z_idiv C (by omega) (by omega) d_M_work_37 ?_
      refine z_top (w := iv ((p / 12 : Nat) : Int)) (by rw [show (p : Int) / 12 = ((p / 12 : Nat) : Int) from by omega]) ?_
      refine z_aload_n C d_M_work_38 rfl ?_
      refine m_get C hM in_M 6 (by decide) tw_fl_M_27 rfl rfl d_M_work_39 ?_
      refine z_iload_n C d_M_work_42 rfl ?_
      have hlk := hI.lk (p := p) (by omega)
      refine m_iald C hM 6 rfl (n := 36) (fun _ => rfl) (p) (by omega) (by omega) (by decide) d_M_work_43 ?_
      refine z_top (w := iv (((s 6 p).toNat : Nat) : Int)) (by rw [show s 6 p = (((s 6 p).toNat : Nat) : Int) from by omega, Int.toNat_natCast]) ?_
      refine z_callV C hKl (cM_begin (p / 12) (s 6 p).toNat hF hI hM.1 (by omega) (by omega) hm) (zgood (fun _ h => h) tw_co_M_begin) rfl (hM.1.1) rfl tw_ml_M_134 tw_im_M_begin tw_se_M_begin tw_in_M pd_M_begin (by decide) rfl (Nat.le_of_ble_eq_true rfl) (by decide) d_M_work_44 (fun r σ' hp => ?_)
      obtain ⟨rfl, hp⟩ := hp
      refine z_goto C 58 d_M_work_47 (by decide) ?_
      exact z_lret C d_M_work_58 (by decide) (by decide) (by rw [ew, show mworkp s t p = mbegin s (p / 12) (s 6 p).toNat from by unfold mworkp; rw [if_pos (by omega), if_pos (by omega)]]; exact ⟨rfl, hM.tr hp⟩)
set_option maxRecDepth 100000 in
set_option maxHeartbeats 4000000 in
theorem cM_gets (i k : Nat) (hF : zFok F A) (hI : Inv s) (hM : RM cI cZ cJ m0 ad s σ) (hi : i < 3) (hk : k < 12) (hv : VI s) : zM l D vwCl A (ztys cI cZ cJ cB) F y_M_gets ws_M_gets (zroom 3 0 0) [.ref m0, iv (i : Int), iv (k : Int)] σ (fun r σ' => r = some (jv (mgets s i k).1) ∧ mR cI cZ cJ m0 ad σ (mgets s i k).2 σ') := by
  refine zMet2 hF (by decide) (Nat.le_of_ble_eq_true rfl) (fun K hKl C => ?_)
  have hM := mR.rf hM
  have loop : ∀ (n q : Nat) (v : Int) (u : St), q + n = 100000 → Inv u → MI u → -100 ≤ v → v ≤ 1000000000000 → ∀ σ1 : zh, mR cI cZ cJ m0 ad σ u σ1 → ∀ aa : Option Value, zJ K D vwCl A 7 (zQ K D vwCl A (fun r σ' => r = some (jv (mloop n v u).1) ∧ mR cI cZ cJ m0 ad σ (mloop n v u).2 σ') 0 0) 0 0 σ1 15 [some (.ref m0), some (iv (i : Int)), some (iv (k : Int)), some (jv v), none, some (iv (q : Int)), aa] [] := by
    intro n
    induction n with
    | zero =>
      intro q v u hq hIu hmu v1 v2 σ1 hM aa
      refine z_iload C d_M_gets_15 rfl ?_
      refine z_ldc C 100000 tw_ki_M_143 d_M_gets_17 ?_
      refine z_icmp_ge C 141 (by omega) (by omega) d_M_gets_19 (by decide) (fun h19 => ?_) (fun h19 => absurd h19 (by omega))
      refine z_lload_n C d_M_gets_141 rfl ?_
      exact z_lret C d_M_gets_142 (by decide) (by decide) (⟨rfl, hM⟩)
    | succ n ih =>
      intro q v u hq hIu hmu v1 v2 σ1 hM aa
      have htop := hmu.top
      have eL : mloop (n + 1) v u = if u 27 0 ≤ 0 then (v, u) else if v < 0 ∧ v ≠ -100 then (v, u) else mcont (mloop n) (mwork u) (u 27 0) := rfl
      have k135 : ∀ (v2 : Int) (u2 : St), mloop (n + 1) v u = mloop n v2 u2 → Inv u2 → MI u2 → -100 ≤ v2 → v2 ≤ 1000000000000 → ∀ σ2 : zh, mR cI cZ cJ m0 ad σ u2 σ2 → ∀ aa : Option Value, zJ K D vwCl A 7 (zQ K D vwCl A (fun r σ' => r = some (jv (mloop (n + 1) v u).1) ∧ mR cI cZ cJ m0 ad σ (mloop (n + 1) v u).2 σ') 0 0) 0 0 σ2 135 [some (.ref m0), some (iv (i : Int)), some (iv (k : Int)), some (jv v2), none, some (iv (q : Int)), aa] [] := by
        intro v2 u2 e hI2 hm2 w1 w2 σ2 hM aa
        rw [e]
        refine z_iinc C d_M_gets_135 rfl (by decide) ?_
        refine z_goto C 15 d_M_gets_138 (by decide) ?_
        have j := ih (q + 1) v2 u2 (by omega) hI2 hm2 w1 w2 σ2 hM aa
        rw [show ((q + 1 : Nat) : Int) = (q : Int) + 1 from by omega] at j
        exact j
      have k45 : 0 < u 27 0 → ¬ (v < 0 ∧ v ≠ -100) → zJ K D vwCl A 7 (zQ K D vwCl A (fun r σ' => r = some (jv (mloop (n + 1) v u).1) ∧ mR cI cZ cJ m0 ad σ (mloop (n + 1) v u).2 σ') 0 0) 0 0 σ1 45 [some (.ref m0), some (iv (i : Int)), some (iv (k : Int)), some (jv v), none, some (iv (q : Int)), aa] [] := by
        intro ht hv
        have htop := hmu.top
        obtain ⟨⟨w1, w2, w3, w4⟩, w5⟩ := mwork_ok hIu hmu ht
        have w27 := fun h => congrFun (w5 h) 0
        have eL : mloop (n + 1) v u = mcont (mloop n) (mwork u) (u 27 0) := mloop_go ht hv
        have ep := mpop_27 (mwork u).2
        refine z_aload_n C d_M_gets_45 rfl ?_
        refine m_get C hM in_M 27 (by decide) tw_fl_M_108 rfl rfl d_M_gets_46 ?_
        refine z_istore C d_M_gets_49 (by decide) ?_
        refine z_aload_n C d_M_gets_51 rfl ?_
        refine z_callV C hKl (cM_work hF hIu hM.1 hmu ht) (zgood (fun _ h => h) tw_co_M_work) rfl (hM.1.1) rfl tw_ml_M_144 tw_im_M_work tw_se_M_work tw_in_M pd_M_work (by decide) rfl (Nat.le_of_ble_eq_true rfl) (by decide) d_M_gets_52 (fun r σ' hp => ?_)
        obtain ⟨rfl, hp⟩ := hp
        have hM := hM.tr hp
        generalize σ' = σ2 at hM ⊢
        refine z_lstore_n C d_M_gets_55 (by decide) ?_
        refine z_lload_n C d_M_gets_56 rfl ?_
        refine z_lconst C 0 d_M_gets_57 rfl ?_
        refine z_lcmp C (by omega) (by omega) d_M_gets_58 (fun v58 hv58 => ?_)
        refine z_if_lt C 135 (by omega) d_M_gets_59 (by decide) (fun h59 => ?_) (fun h59 => ?_)
        · exact k135 _ _ (by rw [eL, mcont_neg (by omega)]) w1 w2 w3 w4 _ hM _
        · have hw0 : 0 ≤ (mwork u).1 := by omega
          have w27 := w27 hw0
          refine z_aload_n C d_M_gets_62 rfl ?_
          refine z_lload_n C d_M_gets_63 rfl ?_
          refine z_iload C d_M_gets_64 rfl ?_
          refine z_callV C hKl (cM_took (mwork u).1 (u 27 0) hF w1 hM.1 w2 (by omega) (by omega)) (zgood (fun _ h => h) tw_co_M_took) rfl (hM.1.1) rfl tw_ml_M_148 tw_im_M_took tw_se_M_took tw_in_M pd_M_took (by decide) rfl (Nat.le_of_ble_eq_true rfl) (by decide) d_M_gets_66 (fun r σ' hp => ?_)
          obtain ⟨b, rfl, hb⟩ := hp
          refine z_if_eq C 75 (by rcases hb with q | q <;> (have := q.1; omega)) d_M_gets_69 (by decide) (fun h69 => ?_) (fun h69 => ?_)
          · rcases hb with ⟨hb1, -, -⟩ | ⟨hb1, hb2, hb3⟩
            · exact absurd h69 (by omega)
            have hM := hM.tr hb3
            generalize σ' = σ3 at hM ⊢
            refine z_aload_n C d_M_gets_75 rfl ?_
            refine z_dup C rfl d_M_gets_76 ?_
            refine m_get C hM in_M 27 (by decide) tw_fl_M_108 rfl rfl d_M_gets_77 ?_
            refine z_iconst C d_M_gets_80 ?_
            refine z_isub C d_M_gets_81 ?_
            refine m_put C hM in_M 27 (by decide) rfl tw_fl_M_108 rfl rfl (tk_M 27 (by decide)) rfl rfl rfl d_M_gets_82 (fun σ hM => ?_)
            have hM : mR cI cZ cJ m0 ad _ (mpop (mwork u).2) σ := hM
            refine z_aload_n C d_M_gets_85 rfl ?_
            refine m_get C hM in_M 27 (by decide) tw_fl_M_108 rfl rfl d_M_gets_86 ?_
            refine z_top (w := iv (mpop (mwork u).2 27 0)) rfl ?_
            refine z_if_ne C 94 (by omega) d_M_gets_89 (by decide) (fun h89 => ?_) (fun h89 => ?_)
            · have hPm := w2.pop (by omega)
              have hg := hPm.got (j := (mpop (mwork u).2 27 0 - 1).toNat) (by omega)
              have hg3 := w2.got3 (j := (mpop (mwork u).2 27 0 - 1).toNat) (by omega)
              have hg3 : mpop (mwork u).2 25 (mpop (mwork u).2 27 0 - 1).toNat ≤ 3 := hg3
              refine z_aload_n C d_M_gets_94 rfl ?_
              refine m_get C hM in_M 26 (by decide) tw_fl_M_82 rfl rfl d_M_gets_95 ?_
              refine z_iconst C d_M_gets_98 ?_
              refine z_aload_n C d_M_gets_99 rfl ?_
              refine m_get C hM in_M 27 (by decide) tw_fl_M_108 rfl rfl d_M_gets_100 ?_
              refine z_top (w := iv (mpop (mwork u).2 27 0)) rfl ?_
              refine z_iconst C d_M_gets_103 ?_
              refine z_isub C d_M_gets_104 ?_
              refine z_imul C d_M_gets_105 ?_
              refine z_aload_n C d_M_gets_106 rfl ?_
              refine m_get C hM in_M 25 (by decide) tw_fl_M_79 rfl rfl d_M_gets_107 ?_
              refine z_aload_n C d_M_gets_110 rfl ?_
              refine m_get C hM in_M 27 (by decide) tw_fl_M_108 rfl rfl d_M_gets_111 ?_
              refine z_top (w := iv (mpop (mwork u).2 27 0)) rfl ?_
              refine z_iconst C d_M_gets_114 ?_
              refine z_isub C d_M_gets_115 ?_
              refine m_iald C hM 25 rfl (n := 36) (fun _ => rfl) ((mpop (mwork u).2 27 0 - 1).toNat) (by omega) (by omega) (by decide) d_M_gets_116 ?_
              refine z_iadd C d_M_gets_117 ?_
              refine z_lload_n C d_M_gets_118 rfl ?_
              refine m_last C hM 26 rfl (n := 144) (fun _ => rfl) (4 * (mpop (mwork u).2 27 0 - 1).toNat + (mpop (mwork u).2 25 (mpop (mwork u).2 27 0 - 1).toNat).toNat) (by omega) (by omega) (by decide) d_M_gets_119 (fun σ hM => ?_)
              refine z_aload_n C d_M_gets_120 rfl ?_
              refine m_get C hM in_M 25 (by decide) tw_fl_M_79 rfl rfl d_M_gets_121 ?_
              refine z_aload_n C d_M_gets_124 rfl ?_
              refine m_get C hM in_M 27 (by decide) tw_fl_M_108 rfl rfl d_M_gets_125 ?_
              refine z_top (w := iv (mpop (mwork u).2 27 0)) rfl ?_
              refine z_iconst C d_M_gets_128 ?_
              refine z_isub C d_M_gets_129 ?_
              refine z_dup2 C rfl rfl d_M_gets_130 ?_
              refine m_iald C hM 25 rfl (n := 36) (fun _ => rfl) ((mpop (mwork u).2 27 0 - 1).toNat) (by omega) (by omega) (by decide) d_M_gets_131 ?_
              refine z_top (w := iv (mpop (mwork u).2 25 (mpop (mwork u).2 27 0 - 1).toNat)) rfl ?_
              refine z_iconst C d_M_gets_132 ?_
              refine z_iadd C d_M_gets_133 ?_
              refine m_iast C hM 25 rfl (n := 36) (fun _ => rfl) ((mpop (mwork u).2 27 0 - 1).toNat) (by omega) (by omega) (by decide) d_M_gets_134 (fun σ hM => ?_)
              have htp := w2.top
              exact k135 _ _ (by rw [eL]; unfold mcont; rw [if_neg (by omega), if_neg hb2, if_neg (by omega)]) (Inv_sem (b := (mwork u).2) (fun f hf => by unfold mdel; rw [stat_mput _ _ f hf]; unfold mpop; rw [sup_n (by omega)]) w1) (w2.del (by omega) (by omega)) w3 w4 _ hM _
            · refine z_lload_n C d_M_gets_92 rfl ?_
              exact z_lret C d_M_gets_93 (by decide) (by decide) (by rw [eL]; unfold mcont; rw [if_neg (by omega), if_neg hb2, if_pos (by omega)]; exact ⟨rfl, hM⟩)
          · rcases hb with ⟨hb1, hb2, hb3⟩ | ⟨hb1, -, -⟩
            rotate_left
            · exact absurd hb1 h69
            have hM := hM.tr hb3
            refine z_goto C 135 d_M_gets_72 (by decide) ?_
            exact k135 _ _ (by rw [eL]; unfold mcont; rw [if_neg (by omega), if_pos hb2]) (Inv_sem (a := mtk (mwork u).2 (mwork u).1) (b := (mwork u).2) (fun f hf => by unfold mtk; rw [sup_n (by omega), sup_n (by omega)]) w1) (w2.tk (by omega) (by omega)) w3 w4 _ hM _
      refine z_iload C d_M_gets_15 rfl ?_
      refine z_ldc C 100000 tw_ki_M_143 d_M_gets_17 ?_
      refine z_icmp_ge C 141 (by omega) (by omega) d_M_gets_19 (by decide) (fun h19 => absurd h19 (by omega)) (fun h19 => ?_)
      refine z_aload_n C d_M_gets_22 rfl ?_
      refine m_get C hM in_M 27 (by decide) tw_fl_M_108 rfl rfl d_M_gets_23 ?_
      refine z_if_le C 141 (by omega) d_M_gets_26 (by decide) (fun h26 => ?_) (fun h26 => ?_)
      · refine z_lload_n C d_M_gets_141 rfl ?_
        exact z_lret C d_M_gets_142 (by decide) (by decide) (by rw [eL, if_pos (by omega)]; exact ⟨rfl, hM⟩)
      · refine z_lload_n C d_M_gets_29 rfl ?_
        refine z_lconst C 0 d_M_gets_30 rfl ?_
        refine z_lcmp C (by omega) (by omega) d_M_gets_31 (fun v31 hv31 => ?_)
        refine z_if_ge C 45 (by omega) d_M_gets_32 (by decide) (fun h32 => ?_) (fun h32 => ?_)
        · exact k45 (by omega) (by omega)
        · refine z_lload_n C d_M_gets_35 rfl ?_
          refine z_ldc2 C (-100) tw_kl_M_127 d_M_gets_36 ?_
          refine z_lcmp C (by omega) (by omega) d_M_gets_39 (fun v39 hv39 => ?_)
          refine z_if_eq C 45 (by omega) d_M_gets_40 (by decide) (fun h40 => ?_) (fun h40 => ?_)
          · exact k45 (by omega) (by omega)
          · refine z_lload_n C d_M_gets_43 rfl ?_
            exact z_lret C d_M_gets_44 (by decide) (by decide) (by rw [eL, if_neg (by omega), if_pos (by omega)]; exact ⟨rfl, hM⟩)
  have e0 : sup s 27 0 0 27 0 = 0 := show iup (s 27) 0 0 0 = _ from iup_s _ _ _
  have hI0 : Inv (sup s 27 0 0) := Inv_sem (b := s) (fun f hf => sup_n (by omega)) hI
  refine z_aload_n C d_M_gets_0 rfl ?_
  refine z_iconst C d_M_gets_1 ?_
  refine m_put C hM in_M 27 (by decide) rfl tw_fl_M_108 rfl rfl (tk_M 27 (by decide)) rfl rfl rfl d_M_gets_2 (fun σ hM => ?_)
  refine z_aload_n C d_M_gets_5 rfl ?_
  refine z_iload_n C d_M_gets_6 rfl ?_
  refine z_iload_n C d_M_gets_7 rfl ?_
  refine z_callV C hKl (cM_begin i k hF hI0 hM.1 hi hk hv.mi) (zgood (fun _ h => h) tw_co_M_begin) rfl (hM.1.1) rfl tw_ml_M_134 tw_im_M_begin tw_se_M_begin tw_in_M pd_M_begin (by decide) rfl (Nat.le_of_ble_eq_true rfl) (by decide) d_M_gets_8 (fun r σ' hp => ?_)
  obtain ⟨rfl, hp⟩ := hp
  have hM := hM.tr hp
  refine z_lstore_n C d_M_gets_11 (by decide) ?_
  refine z_iconst C d_M_gets_12 ?_
  refine z_istore C d_M_gets_13 (by decide) ?_
  obtain ⟨a1, a2, a3, a4, -⟩ := mbegin_ok hI0 hv.mi (fun j hj => absurd hj (by omega)) hi hk
  exact loop 100000 0 _ _ (by omega) a1 a2 a3 a4 _ hM none
end MC5
