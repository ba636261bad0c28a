section XC5
variable {l : Launch} {D : va_G} {A : Nat → Prop} {cI cZ cJ cB : ClassId} {X : Nat → Nat} {O : Nat → Prop}
set_option maxRecDepth 100000 in
set_option maxHeartbeats 8000000 in
theorem cX_obtain : ∀ d : Nat, d ≤ 37 → 0 < d → OBp l D A cI cZ cJ cB X O d := by
  intro d
  induction d with
  | zero => intro _ h; exact absurd h (by omega)
  | succ d ih =>
  intro hd _ s W bnd mkr g σ i k hI hx hi hk
  refine zMet2 (zF_ok A X) (by decide) (Nat.le_of_ble_eq_true rfl) (fun K hKl C => ?_)
  obtain ⟨hO, hX, h1, h2, h3, h4, h5, hB, hBf, hbn, hmk, hvl, hwk, hkp, hk1, hk2, hk3⟩ := id hx
  have hsr := sn_r hI hi hk
  have k122 : ∀ (r : Int × St) (p : Nat) (mkr2 : Nat → Option Nat) (g2 : Nat → Nat → Int) (σ2 : zh) (a kd : Nat) (con sc sz : Int), p < 36 → O a → bnd p = some a → ¬ W p = true → (∀ q, W q = true → ∀ t, t < 4 → g2 1 (4 * q + t) = g 1 (4 * q + t)) → xG cI cZ cJ cB X O bnd mkr2 g2 r.2 (fun q => kpt r.2 q - 1) (wkf (wadd W p)) σ2 → xF O σ σ2 → r = r → zJ K D vwCl A 7 (zQ K D vwCl A (fun r' σ' => r' = some (jv r.1) ∧ ∃ (mkr' : Nat → Option Nat) (g' : Nat → Nat → Int), (∀ q, W q = true → ∀ t, t < 4 → g' 1 (4 * q + t) = g 1 (4 * q + t)) ∧ xG cI cZ cJ cB X O bnd mkr' g' (r).2 (fun q => kpt (r).2 q - 1) (wkf W) σ' ∧ xF O σ σ') (zroom (2 * d + 4) 0 0).cells (zroom (2 * d + 4) 0 0).slots) 0 0 σ2 122 [some (.ref (X 0)), some (iv (i : Int)), some (iv (k : Int)), some (iv (36 - (d : Int))), some (.ref a), none, none] [jv r.1] := by
    intro r p mkr2 g2 σ2 a kd con sc sz hp36 hOa hbp hW hq1 hx2 hF2 _
    obtain ⟨kd2, nd2, ra2⟩ : ∃ (kd2 nd2 : Nat) , ∃ (c2 s2 : Int), σ2 a = some (ob 0 [.ref kd2, iv ((p / 12 : Nat) : Int), iv ((p % 12 : Nat) : Int), iv c2, iv s2, .ref nd2, iv (kpt r.2 p - 1), iv (wkf (wadd W p) p)]) := by
      rcases hx2.2.2.2.2.2.2.2.2.2.1 p hp36 with z | ⟨b, kd, con, sc, sz, kf, zf, z1, z2, z3⟩
      · rw [hbp] at z; cases z.1
      · rw [hbp] at z1
        cases z1
        obtain ⟨nd, ka, la, z4, -⟩ := z2.rec
        exact ⟨kd, nd, con, sc, z4⟩
    obtain ⟨c2, s2, ra2⟩ := ra2
    refine z_lstore C d_X_obtain_122 (by decide) ?_
    refine z_aload C d_X_obtain_124 rfl ?_
    refine z_iconst C d_X_obtain_126 ?_
    refine x_inw C hx2 hp36 hbp ra2 (Or.inl rfl) rfl hOa d_X_obtain_127 (fun σ3 hx3 hF3 => ?_)
    rw [wkf_del hW] at hx3
    refine z_lload C d_X_obtain_130 rfl ?_
    exact z_lret C d_X_obtain_132 (Nat.le_of_eq rfl) (Nat.le_of_eq rfl) (⟨rfl, mkr2, g2, hq1, hx3, hF2.tr hF3⟩)
  have hdep : (37 : Int) - ((d + 1 : Nat) : Int) = 36 - (d : Int) := by omega
  rw [hdep]
  refine z_aload_n C d_X_obtain_0 rfl ?_
  refine z_iload_n C d_X_obtain_1 rfl ?_
  refine z_iload_n C d_X_obtain_2 rfl ?_
  refine z_callV C hKl (cX_seenFrom i k hI hx hi hk) (zgood (fun _ h => h) tw_co_X_seenFrom) rfl (hX) rfl tw_ml_X_124 tw_im_X_seenFrom tw_se_X_seenFrom tw_in_X pd_X_seenFrom (by constructor <;> (simp only [zroom]; omega)) rfl (Nat.le_of_ble_eq_true rfl) ⟨Nat.le_of_eq rfl, Nat.le_of_eq rfl⟩ d_X_obtain_3 (fun r σ hp => ?_)
  obtain ⟨rfl, rfl⟩ := hp
  by_cases hsn : sn s i k < 0
  · rw [if_pos hsn, show va_rf none = Value.null from rfl]
    refine z_astoreN C d_X_obtain_6 (by decide) ?_
    refine z_aloadN C d_X_obtain_8 rfl ?_
    refine z_ifnonnullN C d_X_obtain_10 ?_
    refine z_ldc2 C (-2) tw_kl_X_162 d_X_obtain_13 ?_
    exact z_lret C d_X_obtain_16 (Nat.le_of_eq rfl) (Nat.le_of_eq rfl) (by rw [show rget (d + 1) W s i k = (-2, s) from if_pos hsn]; exact ⟨rfl, mkr, g, fun _ _ _ _ => rfl, hx, xF.rf⟩)
  · obtain ⟨p, a, kd, nd, ka, la, con, sc, sz, kf, zf, hp36, -, ep, hbp, hOa, ha, ⟨-, n1, n2, n3, n4, n5, n6⟩, -, hBK⟩ := xsee hI hx hi hk hsn
    have er := rget_at (W := W) (d := d) hsn ep
    have hOB : 0 < d → OBp l D A cI cZ cJ cB X O d := fun h => ih (by omega) h
    rw [if_neg hsn, ep, Int.toNat_natCast, hbp, show va_rf (some a) = Value.ref a from rfl]
    refine z_astore C d_X_obtain_6 (by decide) ?_
    refine z_aload C d_X_obtain_8 rfl ?_
    refine z_ifnonnull C 17 d_X_obtain_10 (by decide) ?_
    refine z_aload C d_X_obtain_17 rfl ?_
    refine z_getN C in_B (ha) rfl 0 (by decide) nl_164 rfl rfl d_X_obtain_19 ?_
    refine z_gets C (fun _ h => h.2.2.1) tw_fl_X_62 d_X_obtain_22 ?_
    refine z_acmp_ne C 39 d_X_obtain_25 (by decide) (fun h25 => ?_) (fun h25 => ?_)
    · have h51 : s 5 p ≠ 1 := by
        rcases hBK with z | z | z
        · exact absurd z.2.1 h25
        · have := z.1; omega
        · have := z.1; omega
      have hkp := hI.kp p
      have hmd := hI.md
      refine z_aload C d_X_obtain_39 rfl ?_
      refine z_getN C in_B (ha) rfl 6 (by decide) nl_91 rfl rfl d_X_obtain_41 ?_
      refine z_top (w := iv (kpt s p - 1)) rfl ?_
      refine z_iconst C d_X_obtain_44 ?_
      refine z_icmp_eq C 55 (by omega) (by omega) d_X_obtain_45 (by decide) (fun h45 => ?_) (fun h45 => ?_)
      · refine z_aload C d_X_obtain_55 rfl ?_
        refine z_getN C in_B (ha) rfl 7 (by decide) nl_172 rfl rfl d_X_obtain_57 ?_
        refine z_if_ne C 69 (by have := hwk p; omega) d_X_obtain_60 (by decide) (fun h60 => ?_) (fun h60 => ?_)
        · refine z_ldc2 C (-3) tw_kl_X_175 d_X_obtain_69 ?_
          exact z_lret C d_X_obtain_72 (Nat.le_of_eq rfl) (Nat.le_of_eq rfl) (by rw [er, if_neg h51, if_neg (by omega), if_pos (Or.inl (by apply Classical.byContradiction; intro z; exact h60 (if_neg z)))]; exact ⟨rfl, mkr, g, fun _ _ _ _ => rfl, hx, xF.rf⟩)
        · refine z_iload_n C d_X_obtain_63 rfl ?_
          refine z_bipush C d_X_obtain_64 (by decide) ?_
          refine z_icmp_lt C 73 (by omega) (by omega) d_X_obtain_66 (by decide) (fun h66 => ?_) (fun h66 => ?_)
          · have hW : ¬ W p = true := fun z => by
              have : wkf W p = 1 := if_pos z
              omega
            have er2 : rget (d + 1) W s i k = rgo (rget d (wadd W p)) s p := by rw [er, if_neg h51, if_neg (by omega), if_neg (fun z => z.elim hW (by omega))]
            have hWa : wadd W p p = true := by unfold wadd; simp
            have hWs : ∀ q, W q = true → wadd W p q = true := fun q h => by unfold wadd; rw [h, Bool.or_true]
            refine z_aload C d_X_obtain_73 rfl ?_
            refine z_iconst C d_X_obtain_75 ?_
            refine x_inw C hx hp36 hbp ha (Or.inr rfl) rfl hOa d_X_obtain_76 (fun σ1 hx1 hF1 => ?_)
            rw [wkf_add] at hx1
            obtain ⟨w6, w7, ha1⟩ := hF1.2.2.2 _ _ _ _ _ _ _ _ _ ha
            have hn1 := hF1.2.1 _ _ n1
            have hk1a := hF1.2.2.1 _ _ _ n2
            rw [er2]
            refine z_aload C d_X_obtain_79 rfl ?_
            refine z_getN C in_B (ha1) rfl 0 (by decide) nl_164 rfl rfl d_X_obtain_81 ?_
            refine z_gets C (fun _ h => h.2.2.2.1) tw_fl_X_71 d_X_obtain_84 ?_
            refine z_acmp_ne C 115 d_X_obtain_87 (by decide) (fun h87 => ?_) (fun h87 => ?_)
            · have h53 : s 5 p = 3 := by
                rcases hBK with z | z | z
                · exact absurd z.1 h51
                · exact absurd z.2.1 h87
                · exact z.1
              have eg : rgo (rget d (wadd W p)) s p = rnw d (wadd W p) s p := by
                unfold rgo rnw
                rw [if_neg (by omega)]
              refine z_aload_n C d_X_obtain_115 rfl ?_
              refine z_aload C d_X_obtain_116 rfl ?_
              refine z_iload_n C d_X_obtain_118 rfl ?_
              refine z_callV C hKl (cX_obtainNew (by omega) (hOB (by omega)) hI hx1 hp36 hbp h53 (by omega) hWa) (zgood (fun _ h => h) tw_co_X_obtainNew) rfl (hx1.2.1) rfl tw_ml_X_177 tw_im_X_obtainNew tw_se_X_obtainNew tw_in_X pd_X_obtainNew (by constructor <;> (simp only [zroom]; omega)) rfl (Nat.le_of_ble_eq_true rfl) ⟨Nat.le_of_eq rfl, Nat.le_of_eq rfl⟩ d_X_obtain_119 (fun r σ2 hq => ?_)
              obtain ⟨rfl, mkr2, g2, hq1, hx2, hF2⟩ := hq
              rw [← eg] at hx2 ⊢
              exact k122 _ _ mkr2 g2 σ2 a kd con sc sz hp36 hOa hbp hW (fun q h t ht => hq1 q (hWs q h) (fun z => hW (by rw [← z]; exact h)) t ht) hx2 (hF1.tr hF2) rfl
            · have h52 : s 5 p = 2 ∧ kf 0 = s 6 p := by
                rcases hBK with z | z | z
                · exact absurd z.1 h51
                · exact ⟨z.1, z.2.2.2.2⟩
                · exact absurd (h87.symm.trans z.2.1) hk3
              have hlk := hI.lk h52.1
              have eg : rgo (rget d (wadd W p)) s p = rget d (wadd W p) s (p / 12) (s 6 p).toNat := if_pos h52.1
              refine z_aload_n C d_X_obtain_90 rfl ?_
              refine z_aload C d_X_obtain_91 rfl ?_
              refine z_getN C in_B (ha1) rfl 1 (by decide) nl_115 rfl rfl d_X_obtain_93 ?_
              refine z_aload C d_X_obtain_96 rfl ?_
              refine z_getN C in_B (ha1) rfl 5 (by decide) nl_108 rfl rfl d_X_obtain_98 ?_
              refine z_getN C in_N (hn1) rfl 0 (by decide) nl_118 rfl rfl d_X_obtain_101 ?_
              refine z_iconst C d_X_obtain_104 ?_
              refine z_iald C 0 rfl hk1a 0 rfl (by omega) (by decide) d_X_obtain_105 ?_
              refine z_top (w := iv (((s 6 p).toNat : Nat) : Int)) (by rw [h52.2, show s 6 p = (((s 6 p).toNat : Nat) : Int) from by omega, Int.toNat_natCast]) ?_
              refine z_iload_n C d_X_obtain_106 rfl ?_
              refine z_iconst C d_X_obtain_107 ?_
              refine z_iadd C d_X_obtain_108 ?_
              refine z_top (w := iv (37 - (d : Int))) (by rw [show 36 - (d : Int) + 1 = 37 - (d : Int) from by omega]) ?_
              refine z_callV C hKl (hOB (by omega) s (wadd W p) bnd mkr g _ (p / 12) (s 6 p).toNat hI hx1 (by omega) (by omega)) (zgood (fun _ h => h) tw_co_X_obtain) rfl (hx1.2.1) rfl tw_ml_X_150 tw_im_X_obtain tw_se_X_obtain tw_in_X pd_X_obtain (by constructor <;> (simp only [zroom]; omega)) rfl (Nat.le_of_ble_eq_true rfl) ⟨Nat.le_of_eq rfl, Nat.le_of_eq rfl⟩ d_X_obtain_109 (fun r σ2 hq => ?_)
              obtain ⟨rfl, mkr2, g2, hq1, hx2, hF2⟩ := hq
              rw [← eg] at hx2 ⊢
              refine z_goto C 122 d_X_obtain_112 (by decide) ?_
              exact k122 _ _ mkr2 g2 σ2 a kd con sc sz hp36 hOa hbp hW (fun q h t ht => hq1 q (hWs q h) t ht) hx2 (hF1.tr hF2) rfl
          · refine z_ldc2 C (-3) tw_kl_X_175 d_X_obtain_69 ?_
            exact z_lret C d_X_obtain_72 (Nat.le_of_eq rfl) (Nat.le_of_eq rfl) (by rw [er, if_neg h51, if_neg (by omega), if_pos (Or.inr (by omega))]; exact ⟨rfl, mkr, g, fun _ _ _ _ => rfl, hx, xF.rf⟩)
      · refine z_aload C d_X_obtain_48 rfl ?_
        refine z_getN C in_B (ha) rfl 6 (by decide) nl_91 rfl rfl d_X_obtain_50 ?_
        refine z_top (w := iv (kpt s p - 1)) rfl ?_
        refine z_i2l C (by omega) d_X_obtain_53 ?_
        exact z_lret C d_X_obtain_54 (Nat.le_of_eq rfl) (Nat.le_of_eq rfl) (by rw [er, if_neg h51, if_pos (by omega)]; exact ⟨rfl, mkr, g, fun _ _ _ _ => rfl, hx, xF.rf⟩)
    · have h51 : s 5 p = 1 ∧ con = s 6 p := by
        rcases hBK with z | z | z
        · exact ⟨z.1, z.2.2.1⟩
        · exact absurd (h25.symm.trans z.2.1) hk1
        · exact absurd (h25.symm.trans z.2.1) hk2
      refine z_ldc2 C 10000000000 tw_kl_X_167 d_X_obtain_28 ?_
      refine z_aload C d_X_obtain_31 rfl ?_
      refine z_getN C in_B (ha) rfl 3 (by decide) nl_169 rfl rfl d_X_obtain_33 ?_
      refine z_i2l C (by have := hI.nu p; unfold r32 at this; omega) d_X_obtain_36 ?_
      refine z_ladd C d_X_obtain_37 ?_
      exact z_lret C d_X_obtain_38 (Nat.le_of_eq rfl) (Nat.le_of_eq rfl) (by rw [er, if_pos h51.1, h51.2]; exact ⟨rfl, mkr, g, fun _ _ _ _ => rfl, hx, xF.rf⟩)
end XC5
