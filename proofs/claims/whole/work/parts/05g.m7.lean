section MC7
variable {l : Launch} {D : va_G} {A : Nat → Prop} {cI cZ cJ cB : ClassId} {F : State → Prop} {m0 : Nat} {ad : Nat → Nat} {σ : zh} {s : St}
set_option maxRecDepth 100000 in
set_option maxHeartbeats 4000000 in
theorem cM_reach (i k : Int) (hF : zFok F A) (hI : Inv s) (hM : RM cI cZ cJ m0 ad s σ) (ri : -2147483648 ≤ i ∧ i ≤ 2147483647) (rk : -2147483648 ≤ k ∧ k ≤ 2147483647) : zM l D vwCl A (ztys cI cZ cJ cB) F y_M_reach ws_M_reach (zroom 1 0 0) [.ref m0, iv i, iv k] σ (fun r σ' => σ' = σ ∧ ((r = some (iv (-1)) ∧ (i < 0 ∨ s 1 0 ≤ i ∨ k < 0 ∨ 11 < k)) ∨ ((0 ≤ i ∧ i < s 1 0 ∧ 0 ≤ k ∧ k ≤ 11) ∧ ∃ M : Nat, clo s (pr i k) M ∧ r = some (iv ((ksm M 36 : Nat) : Int))))) := by
  refine zMet2 hF (by decide) (Nat.le_of_ble_eq_true rfl) (fun K hKl C => ?_)
  have hM := mR.rf hM
  have hinj := hI.inj
  have fin : ∀ M : Nat, (0 ≤ i ∧ i < s 1 0 ∧ 0 ≤ k ∧ k ≤ 11) → pr i k < 36 → M = (mrun s 1296 0 (2 ^ pr i k)) → M < 2 ^ 36 → ∀ (n q : Nat), q + n = 36 → ∀ a7 a8 : Option Value, zJ K D vwCl A 9 (zQ K D vwCl A (fun r σ' => σ' = σ ∧ ((r = some (iv (-1)) ∧ (i < 0 ∨ s 1 0 ≤ i ∨ k < 0 ∨ 11 < k)) ∨ ((0 ≤ i ∧ i < s 1 0 ∧ 0 ≤ k ∧ k ≤ 11) ∧ ∃ M : Nat, clo s (pr i k) M ∧ r = some (iv ((ksm M 36 : Nat) : Int))))) 0 0) 0 0 σ 178 [some (.ref m0), some (iv i), some (iv k), some (jv ((M : Nat) : Int)), none, some (iv ((ksm M q : Nat) : Int)), some (iv (q : Int)), a7, a8] [] := by
    intro M hok hpr36 hM1 hMlt n
    induction n with
    | zero =>
      intro q hq a7 a8
      have e : q = 36 := by omega
      subst e
      subst hM1
      refine z_iload C d_M_reach_178 rfl ?_
      refine z_bipush C d_M_reach_180 (by decide) ?_
      refine z_icmp_ge C 214 (by omega) (by omega) d_M_reach_182 (by decide) (fun h182 => ?_) (fun h182 => absurd h182 (by omega))
      refine z_iload C d_M_reach_214 rfl ?_
      exact z_iret C d_M_reach_216 (by decide) (by decide) (⟨rfl, Or.inr ⟨hok, _, mrun_clo hI hpr36, rfl⟩⟩)
    | succ n ih =>
      intro q hq a7 a8
      have hk2 := ksm_lt M q
      have hp2 : 2 ^ q < 2 ^ 64 := Nat.pow_lt_pow_right (by omega) (by omega)
      have hp3 : 2 ^ (q % 12) < 2 ^ 12 := Nat.pow_lt_pow_right (by omega) (by omega)
      have hle : M &&& 2 ^ q ≤ M := Nat.and_le_left
      refine z_iload C d_M_reach_178 rfl ?_
      refine z_bipush C d_M_reach_180 (by decide) ?_
      refine z_icmp_ge C 214 (by omega) (by omega) d_M_reach_182 (by decide) (fun h182 => absurd h182 (by omega)) (fun h182 => ?_)
      refine z_lload_n C d_M_reach_185 rfl ?_
      refine z_lconst C 1 d_M_reach_186 rfl ?_
      refine z_iload C d_M_reach_187 rfl ?_
      refine z_bshl C q rfl (by omega) d_M_reach_189 ?_
      refine z_band C (by omega) (by omega) d_M_reach_190 ?_
      refine z_lconst C 0 d_M_reach_191 rfl ?_
      refine z_lcmp C (by omega) (by omega) d_M_reach_192 (fun v192 hv192 => ?_)
      refine z_if_eq C 208 (by omega) d_M_reach_193 (by decide) (fun h193 => ?_) (fun h193 => ?_)
      · refine z_iinc C d_M_reach_208 rfl (by decide) ?_
        refine z_goto C 178 d_M_reach_211 (by decide) ?_
        have hbit : ¬ M.testBit q = true := (bit0 M q).mp (by omega)
        have j := ih (q + 1) (by omega) a7 a8
        rw [show ksm M (q + 1) = ksm M q from if_neg hbit, show ((q + 1 : Nat) : Int) = (q : Int) + 1 from by omega] at j
        exact j
      · have hbit : M.testBit q = true := by
          apply Classical.byContradiction
          intro z
          have := (bit0 M q).mpr z
          omega
        refine z_iload C d_M_reach_196 rfl ?_
        refine z_iconst C d_M_reach_198 ?_
        refine z_iload C d_M_reach_199 rfl ?_
        refine z_bipush C d_M_reach_201 (by decide) ?_
        refine z_irem C (by omega) (by omega) d_M_reach_203 ?_
        refine z_top (w := iv ((q % 12 : Nat) : Int)) (by rw [show (q : Int) % 12 = ((q % 12 : Nat) : Int) from by omega]) ?_
        refine z_bishl C (q % 12) rfl (by omega) d_M_reach_204 ?_
        refine z_bior C (by omega) (by omega) d_M_reach_205 ?_
        refine z_istore C d_M_reach_206 (by decide) ?_
        refine z_iinc C d_M_reach_208 rfl (by decide) ?_
        refine z_goto C 178 d_M_reach_211 (by decide) ?_
        have j := ih (q + 1) (by omega) a7 a8
        rw [show ksm M (q + 1) = ksm M q ||| 2 ^ (q % 12) from if_pos hbit, show ((q + 1 : Nat) : Int) = (q : Int) + 1 from by omega] at j
        exact j
  have loop : (0 ≤ i ∧ i < s 1 0 ∧ 0 ≤ k ∧ k ≤ 11) → pr i k < 36 → ∀ (n q : Nat), q + n = 1296 → ∀ a6 a7 a8 : Option Value, zJ K D vwCl A 9 (zQ K D vwCl A (fun r σ' => σ' = σ ∧ ((r = some (iv (-1)) ∧ (i < 0 ∨ s 1 0 ≤ i ∨ k < 0 ∨ 11 < k)) ∨ ((0 ≤ i ∧ i < s 1 0 ∧ 0 ≤ k ∧ k ≤ 11) ∧ ∃ M : Nat, clo s (pr i k) M ∧ r = some (iv ((ksm M 36 : Nat) : Int))))) 0 0) 0 0 σ 23 [some (.ref m0), some (iv i), some (iv k), some (jv (((mrun s q 0 (2 ^ pr i k)) : Nat) : Int)), none, some (iv (q : Int)), a6, a7, a8] [] := by
    intro hok hpr36 n
    induction n with
    | zero =>
      intro q hq a6 a7 a8
      have e : q = 1296 := by omega
      subst e
      have hlt := mrun_lt hI 1296 0 (2 ^ pr i k) (pow_lt36 hpr36)
      refine z_iload C d_M_reach_23 rfl ?_
      refine z_sipush C d_M_reach_25 (by decide) ?_
      refine z_icmp_ge C 172 (by omega) (by omega) d_M_reach_28 (by decide) (fun h28 => ?_) (fun h28 => absurd h28 (by omega))
      refine z_iconst C d_M_reach_172 ?_
      refine z_istore C d_M_reach_173 (by decide) ?_
      refine z_iconst C d_M_reach_175 ?_
      refine z_istore C d_M_reach_176 (by decide) ?_
      exact fin (mrun s 1296 0 (2 ^ pr i k)) hok hpr36 rfl hlt 36 0 (by omega) _ _
    | succ n ih =>
      intro q hq a6 a7 a8
      have hlt := mrun_lt hI q 0 (2 ^ pr i k) (pow_lt36 hpr36)
      have estep : (mrun s (q + 1) 0 (2 ^ pr i k)) = if (mrun s q 0 (2 ^ pr i k)).testBit (q % 36) = true then (mrun s q 0 (2 ^ pr i k)) ||| nxt s (q % 36) else (mrun s q 0 (2 ^ pr i k)) := mrun_s s q _
      have next : ∀ M' : Nat, M' = (mrun s (q + 1) 0 (2 ^ pr i k)) → ∀ a6 a7 a8 : Option Value, zJ K D vwCl A 9 (zQ K D vwCl A (fun r σ' => σ' = σ ∧ ((r = some (iv (-1)) ∧ (i < 0 ∨ s 1 0 ≤ i ∨ k < 0 ∨ 11 < k)) ∨ ((0 ≤ i ∧ i < s 1 0 ∧ 0 ≤ k ∧ k ≤ 11) ∧ ∃ M : Nat, clo s (pr i k) M ∧ r = some (iv ((ksm M 36 : Nat) : Int))))) 0 0) 0 0 σ 166 [some (.ref m0), some (iv i), some (iv k), some (jv ((M' : Nat) : Int)), none, some (iv (q : Int)), a6, a7, a8] [] := by
        intro M' e a6 a7 a8
        subst e
        refine z_iinc C d_M_reach_166 rfl (by decide) ?_
        refine z_goto C 23 d_M_reach_169 (by decide) ?_
        have j := ih (q + 1) (by omega) a6 a7 a8
        rw [show ((q + 1 : Nat) : Int) = (q : Int) + 1 from by omega] at j
        exact j
      generalize hMq : (mrun s q 0 (2 ^ pr i k)) = M at hlt estep ⊢
      have hp2 : 2 ^ (q % 36) < 2 ^ 36 := pow_lt36 (Nat.mod_lt _ (by omega))
      have hle : M &&& 2 ^ (q % 36) ≤ M := Nat.and_le_left
      have hsr := sn_r hI (i := q % 36 / 12) (k := q % 36 % 12) (by omega) (by omega)
      refine z_iload C d_M_reach_23 rfl ?_
      refine z_sipush C d_M_reach_25 (by decide) ?_
      refine z_icmp_ge C 172 (by omega) (by omega) d_M_reach_28 (by decide) (fun h28 => absurd h28 (by omega)) (fun h28 => ?_)
      refine z_iload C d_M_reach_31 rfl ?_
      refine z_bipush C d_M_reach_33 (by decide) ?_
      refine z_irem C (by omega) (by omega) d_M_reach_35 ?_
      refine z_top (w := iv ((q % 36 : Nat) : Int)) (by rw [show (q : Int) % 36 = ((q % 36 : Nat) : Int) from by omega]) ?_
      refine z_istore C d_M_reach_36 (by decide) ?_
      refine z_lload_n C d_M_reach_38 rfl ?_
      refine z_lconst C 1 d_M_reach_39 rfl ?_
      refine z_iload C d_M_reach_40 rfl ?_
      refine z_bshl C (q % 36) rfl (by omega) d_M_reach_42 ?_
      refine z_band C (by omega) (by omega) d_M_reach_43 ?_
      refine z_lconst C 0 d_M_reach_44 rfl ?_
      refine z_lcmp C (by omega) (by omega) d_M_reach_45 (fun v45 hv45 => ?_)
      refine z_if_ne C 52 (by omega) d_M_reach_46 (by decide) (fun h46 => ?_) (fun h46 => ?_)
      · have hbit : M.testBit (q % 36) = true := by
          apply Classical.byContradiction
          intro z
          have := (bit0 M (q % 36)).mpr z
          omega
        refine z_aload_n C d_M_reach_52 rfl ?_
        refine z_iload C d_M_reach_53 rfl ?_
        refine z_bipush C d_M_reach_55 (by decide) ?_
        refine z_idiv C (by omega) (by omega) d_M_reach_57 ?_
        refine z_top (w := iv (((q % 36) / 12 : Nat) : Int)) (by rw [show (((q % 36) : Nat) : Int) / 12 = (((q % 36) / 12 : Nat) : Int) from by omega]) ?_
        refine z_iload C d_M_reach_58 rfl ?_
        refine z_bipush C d_M_reach_60 (by decide) ?_
        refine z_irem C (by omega) (by omega) d_M_reach_62 ?_
        refine z_top (w := iv ((q % 36 % 12 : Nat) : Int)) (by rw [show ((q % 36 : Nat) : Int) % 12 = ((q % 36 % 12 : Nat) : Int) from by omega]) ?_
        refine z_callV C hKl (cM_seen (q % 36 / 12) (q % 36 % 12) hF hI hM.1 (by omega) (by omega)) (zgood (fun _ h => h) tw_co_M_seen) rfl (hM.1.1) rfl tw_ml_M_111 tw_im_M_seen tw_se_M_seen tw_in_M pd_M_seen (by decide) rfl (Nat.le_of_ble_eq_true rfl) (by decide) d_M_reach_63 (fun r σ hp => ?_)
        obtain ⟨rfl, rfl⟩ := hp
        refine z_istore C d_M_reach_66 (by decide) ?_
        refine z_iload C d_M_reach_68 rfl ?_
        refine z_if_ge C 76 (by omega) d_M_reach_70 (by decide) (fun h70 => ?_) (fun h70 => ?_)
        · obtain ⟨a, ha, ea, h0, -⟩ := hI.seen (i := q % 36 / 12) (key := q % 36 % 12) (by omega) (by omega) (by omega)
          rw [ea]
          have enx : nxt s (q % 36) = if s 5 a = 2 then 2 ^ (a / 12 * 12 + (s 6 a).toNat) else if s 5 a = 3 then nxn s a (s 8 a).toNat else 0 := by
            unfold nxt
            rw [if_neg (by omega), ea, Int.toNat_natCast]
            rfl
          have hkd := hI.kd a
          have hnn := hI.nn a
          have hnu := hI.nu a
          unfold r32 at hnu
          have inner : s 5 a = 3 → ∀ (n2 x : Nat), x + n2 = (s 8 a).toNat → ∀ a6 : Option Value, zJ K D vwCl A 9 (zQ K D vwCl A (fun r σ' => σ' = σ ∧ ((r = some (iv (-1)) ∧ (i < 0 ∨ s 1 0 ≤ i ∨ k < 0 ∨ 11 < k)) ∨ ((0 ≤ i ∧ i < s 1 0 ∧ 0 ≤ k ∧ k ≤ 11) ∧ ∃ M : Nat, clo s (pr i k) M ∧ r = some (iv ((ksm M 36 : Nat) : Int))))) 0 0) 0 0 σ 111 [some (.ref m0), some (iv i), some (iv k), some (jv (((M ||| nxn s a x) : Nat) : Int)), none, some (iv (q : Int)), a6, some (iv (a : Int)), some (iv (x : Int))] [] := by
            intro h3 n2
            induction n2 with
            | zero =>
              intro x hx a6
              have e : x = (s 8 a).toNat := by omega
              subst e
              refine z_iload C d_M_reach_111 rfl ?_
              refine z_aload_n C d_M_reach_113 rfl ?_
              refine m_get C hM in_M 8 (by decide) tw_fl_M_33 rfl rfl d_M_reach_114 ?_
              refine z_iload C d_M_reach_117 rfl ?_
              refine m_iald C hM 8 rfl (n := 36) (fun _ => rfl) (a) (by omega) (by omega) (by decide) d_M_reach_119 ?_
              refine z_icmp_ge C 166 (by omega) (by omega) d_M_reach_120 (by decide) (fun h120 => ?_) (fun h120 => absurd h120 (by omega))
              exact next _ (by rw [estep, if_pos hbit, enx, if_neg (by omega), if_pos h3]) _ _ _
            | succ n2 ih2 =>
              intro x hx a6
              have hnk := hI.nk (4 * a + x)
              have h1 := nxn_lt hI ha x
              have h2 : M ||| nxn s a x < 2 ^ 36 := Nat.or_lt_two_pow hlt h1
              have h4 : 2 ^ (a / 12 * 12 + (s 9 (4 * a + x)).toNat) < 2 ^ 36 := pow_lt36 (by omega)
              refine z_iload C d_M_reach_111 rfl ?_
              refine z_aload_n C d_M_reach_113 rfl ?_
              refine m_get C hM in_M 8 (by decide) tw_fl_M_33 rfl rfl d_M_reach_114 ?_
              refine z_iload C d_M_reach_117 rfl ?_
              refine m_iald C hM 8 rfl (n := 36) (fun _ => rfl) (a) (by omega) (by omega) (by decide) d_M_reach_119 ?_
              refine z_icmp_ge C 166 (by omega) (by omega) d_M_reach_120 (by decide) (fun h120 => absurd h120 (by omega)) (fun h120 => ?_)
              refine z_aload_n C d_M_reach_123 rfl ?_
              refine m_get C hM in_M 5 (by decide) tw_fl_M_24 rfl rfl d_M_reach_124 ?_
              refine z_iload C d_M_reach_127 rfl ?_
              refine m_iald C hM 5 rfl (n := 36) (fun _ => rfl) (a) (by omega) (by omega) (by decide) d_M_reach_129 ?_
              refine z_iconst C d_M_reach_130 ?_
              refine z_icmp_ne C 166 (by omega) (by omega) d_M_reach_131 (by decide) (fun h131 => absurd h131 (by omega)) (fun h131 => ?_)
              refine z_lload_n C d_M_reach_134 rfl ?_
              refine z_lconst C 1 d_M_reach_135 rfl ?_
              refine z_iload C d_M_reach_136 rfl ?_
              refine z_bipush C d_M_reach_138 (by decide) ?_
              refine z_idiv C (by omega) (by omega) d_M_reach_140 ?_
              refine z_top (w := iv ((a / 12 : Nat) : Int)) (by rw [show ((a : Nat) : Int) / 12 = ((a / 12 : Nat) : Int) from by omega]) ?_
              refine z_bipush C d_M_reach_141 (by decide) ?_
              refine z_imul C d_M_reach_143 ?_
              refine z_aload_n C d_M_reach_144 rfl ?_
              refine m_get C hM in_M 9 (by decide) tw_fl_M_36 rfl rfl d_M_reach_145 ?_
              refine z_iconst C d_M_reach_148 ?_
              refine z_iload C d_M_reach_149 rfl ?_
              refine z_imul C d_M_reach_151 ?_
              refine z_iload C d_M_reach_152 rfl ?_
              refine z_iadd C d_M_reach_154 ?_
              refine m_iald C hM 9 rfl (n := 144) (fun _ => rfl) (4 * a + x) (by omega) (by omega) (by decide) d_M_reach_155 ?_
              refine z_iadd C d_M_reach_156 ?_
              refine z_bshl C (a / 12 * 12 + (s 9 (4 * a + x)).toNat) (by omega) (by omega) d_M_reach_157 ?_
              refine z_bor C (by omega) (by omega) d_M_reach_158 ?_
              refine z_lstore_n C d_M_reach_159 (by decide) ?_
              refine z_iinc C d_M_reach_160 rfl (by decide) ?_
              refine z_goto C 111 d_M_reach_163 (by decide) ?_
              have j := ih2 (x + 1) (by omega) a6
              rw [show nxn s a (x + 1) = nxn s a x ||| 2 ^ (a / 12 * 12 + (s 9 (4 * a + x)).toNat) from rfl, ← Nat.or_assoc, show ((x + 1 : Nat) : Int) = (x : Int) + 1 from by omega] at j
              exact j
          have other : s 5 a ≠ 3 → ∀ M2 : Nat, M2 = (mrun s (q + 1) 0 (2 ^ pr i k)) → ∀ a6 : Option Value, zJ K D vwCl A 9 (zQ K D vwCl A (fun r σ' => σ' = σ ∧ ((r = some (iv (-1)) ∧ (i < 0 ∨ s 1 0 ≤ i ∨ k < 0 ∨ 11 < k)) ∨ ((0 ≤ i ∧ i < s 1 0 ∧ 0 ≤ k ∧ k ≤ 11) ∧ ∃ M : Nat, clo s (pr i k) M ∧ r = some (iv ((ksm M 36 : Nat) : Int))))) 0 0) 0 0 σ 111 [some (.ref m0), some (iv i), some (iv k), some (jv ((M2 : Nat) : Int)), none, some (iv (q : Int)), a6, some (iv (a : Int)), some (iv 0)] [] := by
            intro h3 M2 e a6
            refine z_iload C d_M_reach_111 rfl ?_
            refine z_aload_n C d_M_reach_113 rfl ?_
            refine m_get C hM in_M 8 (by decide) tw_fl_M_33 rfl rfl d_M_reach_114 ?_
            refine z_iload C d_M_reach_117 rfl ?_
            refine m_iald C hM 8 rfl (n := 36) (fun _ => rfl) (a) (by omega) (by omega) (by decide) d_M_reach_119 ?_
            refine z_icmp_ge C 166 (by omega) (by omega) d_M_reach_120 (by decide) (fun h120 => ?_) (fun h120 => ?_)
            · exact next _ e _ _ _
            · refine z_aload_n C d_M_reach_123 rfl ?_
              refine m_get C hM in_M 5 (by decide) tw_fl_M_24 rfl rfl d_M_reach_124 ?_
              refine z_iload C d_M_reach_127 rfl ?_
              refine m_iald C hM 5 rfl (n := 36) (fun _ => rfl) (a) (by omega) (by omega) (by decide) d_M_reach_129 ?_
              refine z_iconst C d_M_reach_130 ?_
              refine z_icmp_ne C 166 (by omega) (by omega) d_M_reach_131 (by decide) (fun h131 => ?_) (fun h131 => absurd h131 (by omega))
              exact next _ e _ _ _
          refine z_aload_n C d_M_reach_76 rfl ?_
          refine m_get C hM in_M 5 (by decide) tw_fl_M_24 rfl rfl d_M_reach_77 ?_
          refine z_iload C d_M_reach_80 rfl ?_
          refine m_iald C hM 5 rfl (n := 36) (fun _ => rfl) (a) (by omega) (by omega) (by decide) d_M_reach_82 ?_
          refine z_iconst C d_M_reach_83 ?_
          refine z_icmp_ne C 108 (by omega) (by omega) d_M_reach_84 (by decide) (fun h84 => ?_) (fun h84 => ?_)
          · refine z_iconst C d_M_reach_108 ?_
            refine z_istore C d_M_reach_109 (by decide) ?_
            by_cases h3 : s 5 a = 3
            · have j := inner h3 (s 8 a).toNat 0 (by omega) (some (iv ((q % 36 : Nat) : Int)))
              rw [show nxn s a 0 = 0 from rfl, Nat.or_zero] at j
              exact j
            · exact other h3 _ (by rw [estep, if_pos hbit, enx, if_neg (by omega), if_neg h3, Nat.or_zero]) _
          · have hlk := hI.lk (p := a) (by omega)
            have h4 : 2 ^ (a / 12 * 12 + (s 6 a).toNat) < 2 ^ 36 := pow_lt36 (by omega)
            refine z_lload_n C d_M_reach_87 rfl ?_
            refine z_lconst C 1 d_M_reach_88 rfl ?_
            refine z_iload C d_M_reach_89 rfl ?_
            refine z_bipush C d_M_reach_91 (by decide) ?_
            refine z_idiv C (by omega) (by omega) d_M_reach_93 ?_
            refine z_top (w := iv ((a / 12 : Nat) : Int)) (by rw [show ((a : Nat) : Int) / 12 = ((a / 12 : Nat) : Int) from by omega]) ?_
            refine z_bipush C d_M_reach_94 (by decide) ?_
            refine z_imul C d_M_reach_96 ?_
            refine z_aload_n C d_M_reach_97 rfl ?_
            refine m_get C hM in_M 6 (by decide) tw_fl_M_27 rfl rfl d_M_reach_98 ?_
            refine z_iload C d_M_reach_101 rfl ?_
            refine m_iald C hM 6 rfl (n := 36) (fun _ => rfl) (a) (by omega) (by omega) (by decide) d_M_reach_103 ?_
            refine z_iadd C d_M_reach_104 ?_
            refine z_bshl C (a / 12 * 12 + (s 6 a).toNat) (by omega) (by omega) d_M_reach_105 ?_
            refine z_bor C (by omega) (by omega) d_M_reach_106 ?_
            refine z_lstore_n C d_M_reach_107 (by decide) ?_
            refine z_iconst C d_M_reach_108 ?_
            refine z_istore C d_M_reach_109 (by decide) ?_
            exact other (by omega) _ (by rw [estep, if_pos hbit, enx, if_pos (by omega)]) _
        · refine z_goto C 166 d_M_reach_73 (by decide) ?_
          exact next M (by rw [estep, if_pos hbit, show nxt s (q % 36) = 0 from if_pos (by omega), Nat.or_zero]) _ _ _
      · have hbit : ¬ M.testBit (q % 36) = true := (bit0 M (q % 36)).mp (by omega)
        refine z_goto C 166 d_M_reach_49 (by decide) ?_
        exact next M (by rw [estep, if_neg hbit]) _ _ _
  refine z_aload_n C d_M_reach_0 rfl ?_
  refine z_iload_n C d_M_reach_1 rfl ?_
  refine z_iload_n C d_M_reach_2 rfl ?_
  refine z_callV C hKl (cM_noPair i k hF hI hM.1 ri rk) (zgood (fun _ h => h) tw_co_M_noPair) rfl (hM.1.1) rfl tw_ml_M_88 tw_im_M_noPair tw_se_M_noPair tw_in_M pd_M_noPair (by decide) rfl (Nat.le_of_ble_eq_true rfl) (by decide) d_M_reach_3 (fun r σ hp => ?_)
  obtain ⟨rfl, b, rfl, hb⟩ := hp
  refine z_if_eq C 11 (by omega) d_M_reach_6 (by decide) (fun h6 => ?_) (fun h6 => ?_)
  · have hpr : ((pr i k : Nat) : Int) = 12 * i + k := by unfold pr; omega
    refine z_lconst C 1 d_M_reach_11 rfl ?_
    refine z_bipush C d_M_reach_12 (by decide) ?_
    refine z_iload_n C d_M_reach_14 rfl ?_
    refine z_imul C d_M_reach_15 ?_
    refine z_iload_n C d_M_reach_16 rfl ?_
    refine z_iadd C d_M_reach_17 ?_
    refine z_bshl C (pr i k) (by omega) (by omega) d_M_reach_18 ?_
    refine z_lstore_n C d_M_reach_19 (by decide) ?_
    refine z_iconst C d_M_reach_20 ?_
    refine z_istore C d_M_reach_21 (by decide) ?_
    exact loop (by omega) (by omega) 1296 0 (by omega) none none none
  · refine z_iconst C d_M_reach_9 ?_
    exact z_iret C d_M_reach_10 (by decide) (by decide) (⟨rfl, Or.inl ⟨rfl, by omega⟩⟩)
end MC7
