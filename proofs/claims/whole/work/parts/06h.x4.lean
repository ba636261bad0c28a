def OBp (l : Launch) (D : va_G) (A : Nat → Prop) (cI cZ cJ cB : ClassId) (X : Nat → Nat) (O : Nat → Prop) (d : Nat) : Prop := ∀ (s : St) (W : Nat → Bool) (bnd mkr : Nat → Option Nat) (g : Nat → Nat → Int) (σ : zh) (i k : Nat), Inv s → xG cI cZ cJ cB X O bnd mkr g s (fun q => kpt s q - 1) (wkf W) σ → i < 3 → k < 12 → zM l D vwCl A (ztys cI cZ cJ cB) (zF A X) y_X_obtain ws_X_obtain (zroom (2 * d + 2) 0 0) [.ref (X 0), iv (i : Int), iv (k : Int), iv (37 - (d : Int))] σ (fun r σ' => r = some (jv (rget d W s i k).1) ∧ ∃ (mkr' : Nat → Option Nat) (g' : Nat → Nat → Int), (∀ q, W q = true → ∀ t, t < 4 → g' 1 (4 * q + t) = g 1 (4 * q + t)) ∧ xG cI cZ cJ cB X O bnd mkr' g' (rget d W s i k).2 (fun q => kpt (rget d W s i k).2 q - 1) (wkf W) σ' ∧ xF O σ σ')
section XC4
variable {l : Launch} {D : va_G} {A : Nat → Prop} {cI cZ cJ cB : ClassId} {X : Nat → Nat} {O : Nat → Prop}
set_option maxRecDepth 100000 in
set_option maxHeartbeats 4000000 in
theorem cX_obtainNew {bnd mkr : Nat → Option Nat} {g : Nat → Nat → Int} {σ : zh} {s : St} {W : Nat → Bool} {d : Nat} (hd36 : d ≤ 36) (hOB : OBp l D A cI cZ cJ cB X O d) {p a : Nat} (hI : Inv s) (hx : xG cI cZ cJ cB X O bnd mkr g s (fun q => kpt s q - 1) (wkf W) σ) (hp : p < 36) (hb : bnd p = some a) (h5p : s 5 p = 3) (hk0 : kpt s p = 0) (hW : W p = true) : zM l D vwCl A (ztys cI cZ cJ cB) (zF A X) y_X_obtainNew ws_X_obtainNew (zroom (2 * d + 3) 0 0) [.ref (X 0), .ref a, iv (36 - (d : Int))] σ (fun r σ' => r = some (jv (rnw d W s p).1) ∧ ∃ (mkr' : Nat → Option Nat) (g' : Nat → Nat → Int), (∀ q, W q = true → q ≠ p → ∀ t, t < 4 → g' 1 (4 * q + t) = g 1 (4 * q + t)) ∧ xG cI cZ cJ cB X O bnd mkr' g' (rnw d W s p).2 (fun q => kpt (rnw d W s p).2 q - 1) (wkf W) σ' ∧ xF O σ σ') := by
  refine zMet2 (zF_ok A X) (by decide) (Nat.le_of_ble_eq_true rfl) (fun K hKl C => ?_)
  obtain ⟨hO, hX, h1, h2, h3, h4, h5, hB, hBf, hbn, hmk, hvl, hwk, hkp, hk1, hk2, hk3⟩ := id hx
  obtain ⟨kd, nd, ka, la, con, sc, sz, kf, zf, hOa, ha, hsc, hsz, hkf, ⟨-, n1, n2, n3, n4, n5, n6⟩⟩ : ∃ (kd nd ka la : Nat) (con sc sz : Int) (kf zf : Nat → Int), O a ∧ σ a = some (ob 0 [.ref kd, iv ((p / 12 : Nat) : Int), iv ((p % 12 : Nat) : Int), iv con, iv sc, .ref nd, iv (kpt s p - 1), iv (wkf W p)]) ∧ sc = s 7 p ∧ sz = s 8 p ∧ (∀ j : Nat, (j : Int) < sz → kf j = s 9 (4 * p + j) ∧ zf j = s 10 (4 * p + j)) ∧ NDk cI cZ O σ nd ka la sz kf zf := by
    rcases hbn p hp with z | ⟨b, kd, con, sc, sz, kf, zf, z1, z2, z3⟩
    · rw [hb] at z; cases z.1
    · rw [hb] at z1
      cases z1
      obtain ⟨y1, nd, ka, la, y2, y3, -⟩ := z2
      rcases z3 with z3 | z3 | z3
      · have := z3.1; omega
      · have := z3.1; omega
      · exact ⟨kd, nd, ka, la, con, sc, sz, kf, zf, y1, y2, z3.2.2.1, z3.2.2.2.1, z3.2.2.2.2, y3⟩
  have hscr := hI.sc p
  have hnn := hI.nn p
  have hop := hI.op
  have loop : ∀ (n j : Nat) (u : St) (vs : Nat → Int) (mkr1 : Nat → Option Nat) (g1 : Nat → Nat → Int) (σ1 : zh), s 8 p = (j : Int) + n → Inv u → grow s u → xG cI cZ cJ cB X O bnd mkr1 g1 u (fun q => kpt u q - 1) (wkf W) σ1 → xF O σ σ1 → (∀ q, W q = true → q ≠ p → ∀ t, t < 4 → g1 1 (4 * q + t) = g 1 (4 * q + t)) → (∀ t, t < j → g1 1 (4 * p + t) = vs t) → (∀ t, 0 ≤ vs t ∧ vs t ≤ 1000000000000) → kq u s p → ∀ a6 a7 : Option Value, zJ K D vwCl A 8 (zQ K D vwCl A (fun r σ' => r = some (jv (rend p (rneeds (rget d W) p n j u vs)).1) ∧ ∃ (mkr' : Nat → Option Nat) (g' : Nat → Nat → Int), (∀ q, W q = true → q ≠ p → ∀ t, t < 4 → g' 1 (4 * q + t) = g 1 (4 * q + t)) ∧ xG cI cZ cJ cB X O bnd mkr' g' (rend p (rneeds (rget d W) p n j u vs)).2 (fun q => kpt (rend p (rneeds (rget d W) p n j u vs)).2 q - 1) (wkf W) σ' ∧ xF O σ σ') (zroom (2 * d + 3) 0 0).cells (zroom (2 * d + 3) 0 0).slots) 0 0 σ1 42 [some (.ref (X 0)), some (.ref a), some (iv (36 - (d : Int))), some (.ref nd), some (iv ((4 * p : Nat) : Int)), some (iv (j : Int)), a6, a7] [] := by
    intro n
    induction n with
    | zero =>
      intro j u vs mkr1 g1 σ1 hj hIu hgr hx1 hF1 hr1 hr2 hvr hkq a6 a7
      have stt := hgr.1
      have hmd := hIu.md
      have hku : kpt u p = 0 := by unfold kpt at hk0 ⊢; rw [hkq.1, hkq.2]; exact hk0
      obtain ⟨w6, w7, ha1⟩ := hF1.2.2.2 _ _ _ _ _ _ _ _ _ ha
      have hn1 := hF1.2.1 _ _ n1
      have hk1 := hF1.2.2.1 _ _ _ n2
      have hl1 := hF1.2.2.1 _ _ _ n3
      have hX1 := hx1.2.1
      refine z_iload C d_X_obtainNew_42 rfl ?_
      refine z_aload_n C d_X_obtainNew_44 rfl ?_
      refine z_getN C in_N (hn1) rfl 2 (by decide) nl_47 rfl rfl d_X_obtainNew_45 ?_
      refine z_icmp_ge C 127 (by omega) (by omega) d_X_obtainNew_48 (by decide) (fun h48 => ?_) (fun h48 => absurd h48 (by omega))
      refine z_aload_n C d_X_obtainNew_127 rfl ?_
      refine z_get C in_X (hX1) rfl 7 (by decide) tw_fl_X_143 rfl rfl d_X_obtainNew_128 ?_
      refine z_bipush C d_X_obtainNew_131 (by decide) ?_
      refine z_icmp_lt C 142 (by omega) (by omega) d_X_obtainNew_133 (by decide) (fun h133 => ?_) (fun h133 => ?_)
      · refine z_aload_n C d_X_obtainNew_142 rfl ?_
        refine z_aload_n C d_X_obtainNew_143 rfl ?_
        refine z_iload C d_X_obtainNew_144 rfl ?_
        refine z_callV C hKl (cX_makeInstance hIu hx1 hp hb (by rw [stt 5 rfl]; exact h5p) (by omega) hku vs (fun t ht => hr2 t (by rw [stt 8 rfl] at ht; omega))) (zgood (fun _ h => h) tw_co_X_makeInstance) rfl (hX1) rfl tw_ml_X_188 tw_im_X_makeInstance tw_se_X_makeInstance tw_in_X pd_X_makeInstance (by constructor <;> (simp only [zroom]; omega)) rfl (Nat.le_of_ble_eq_true rfl) ⟨Nat.le_of_eq rfl, Nat.le_of_eq rfl⟩ d_X_obtainNew_146 (fun r σ2 hq => ?_)
        obtain ⟨rfl, mkr2, g2, e2, hx2, hF2⟩ := hq
        refine z_i2l C (by omega) d_X_obtainNew_149 ?_
        exact z_lret C d_X_obtainNew_150 (Nat.le_of_eq rfl) (Nat.le_of_eq rfl) (by rw [show rend p (rneeds (rget d W) p 0 j u vs) = (u 23 0, mk u p vs) from by show (if (0 : Int) < 0 then _ else if u 23 0 = 100 then (-5, u) else (u 23 0, mk u p vs)) = _; rw [if_neg (by omega), if_neg (by omega)]]; exact ⟨rfl, mkr2, g2, fun q h1 h2 t ht => by rw [e2]; exact hr1 q h1 h2 t ht, hx2, hF1.tr hF2⟩)
      · refine z_ldc2 C (-5) tw_kl_X_186 d_X_obtainNew_136 ?_
        refine z_goto C 150 d_X_obtainNew_139 (by decide) ?_
        exact z_lret C d_X_obtainNew_150 (Nat.le_of_eq rfl) (Nat.le_of_eq rfl) (by rw [show rend p (rneeds (rget d W) p 0 j u vs) = (-5, u) from by show (if (0 : Int) < 0 then _ else if u 23 0 = 100 then (-5, u) else (u 23 0, mk u p vs)) = _; rw [if_neg (by omega), if_pos (by omega)]]; exact ⟨rfl, mkr1, g1, hr1, hx1, hF1⟩)
    | succ n ih =>
      intro j u vs mkr1 g1 σ1 hj hIu hgr hx1 hF1 hr1 hr2 hvr hkq a6 a7
      have stt := hgr.1
      obtain ⟨w6, w7, ha1⟩ := hF1.2.2.2 _ _ _ _ _ _ _ _ _ ha
      have hn1 := hF1.2.1 _ _ n1
      have hk1 := hF1.2.2.1 _ _ _ n2
      have hl1 := hF1.2.2.1 _ _ _ n3
      have hX1 := hx1.2.1
      have hkz := hkf j (by omega)
      have hkj := n5 j
      have hzj := n6 j
      have hz10 : zf j = u 10 (4 * p + j) := by rw [hkz.2, stt 10 rfl]
      have er : rneeds (rget d W) p (n + 1) j u vs = if u 10 (4 * p + j) = 1 then rneeds (rget d W) p n (j + 1) u (iup vs j (20000000000 + 16 * ((p / 12 : Nat) : Int) + u 9 (4 * p + j))) else if (rget d W u (p / 12) (u 9 (4 * p + j)).toNat).1 < 0 then ((rget d W u (p / 12) (u 9 (4 * p + j)).toNat).1, (rget d W u (p / 12) (u 9 (4 * p + j)).toNat).2, vs) else rneeds (rget d W) p n (j + 1) (rget d W u (p / 12) (u 9 (4 * p + j)).toNat).2 (iup vs j (rget d W u (p / 12) (u 9 (4 * p + j)).toNat).1) := rfl
      have tail : ∀ (v : Int) (u2 : St) (mkr2 : Nat → Option Nat) (g2 : Nat → Nat → Int) (σ2 : zh), -5 ≤ v → v ≤ 1000000000000 → (v < 0 → rneeds (rget d W) p (n + 1) j u vs = (v, u2, vs)) → (0 ≤ v → rneeds (rget d W) p (n + 1) j u vs = rneeds (rget d W) p n (j + 1) u2 (iup vs j v)) → Inv u2 → grow s u2 → xG cI cZ cJ cB X O bnd mkr2 g2 u2 (fun q => kpt u2 q - 1) (wkf W) σ2 → xF O σ σ2 → (∀ q, W q = true → q ≠ p → ∀ t, t < 4 → g2 1 (4 * q + t) = g 1 (4 * q + t)) → (∀ t, t < j → g2 1 (4 * p + t) = vs t) → kq u2 s p → ∀ a6 a7 : Option Value, zJ K D vwCl A 8 (zQ K D vwCl A (fun r σ' => r = some (jv (rend p (rneeds (rget d W) p (n + 1) j u vs)).1) ∧ ∃ (mkr' : Nat → Option Nat) (g' : Nat → Nat → Int), (∀ q, W q = true → q ≠ p → ∀ t, t < 4 → g' 1 (4 * q + t) = g 1 (4 * q + t)) ∧ xG cI cZ cJ cB X O bnd mkr' g' (rend p (rneeds (rget d W) p (n + 1) j u vs)).2 (fun q => kpt (rend p (rneeds (rget d W) p (n + 1) j u vs)).2 q - 1) (wkf W) σ' ∧ xF O σ σ') (zroom (2 * d + 3) 0 0).cells (zroom (2 * d + 3) 0 0).slots) 0 0 σ2 96 [some (.ref (X 0)), some (.ref a), some (iv (36 - (d : Int))), some (.ref nd), some (iv ((4 * p : Nat) : Int)), some (iv (j : Int)), a6, a7] [jv v] := by
        intro v u2 mkr2 g2 σ2 v1 v2 e1 e0 hI2 hG2 hx2 hF2 hq1 hq2 hk2 a6 a7
        refine z_lstore C d_X_obtainNew_96 (by decide) ?_
        refine z_lload C d_X_obtainNew_98 rfl ?_
        refine z_callS C hKl (cX_isError v (by omega)) (zgood (fun _ h => h) tw_co_X_isError) rfl tw_ml_X_154 tw_st_X_isError tw_in_X pd_X_isError (by constructor <;> (simp only [zroom]; omega)) rfl (Nat.le_of_ble_eq_true rfl) ⟨Nat.le_of_eq rfl, Nat.le_of_eq rfl⟩ d_X_obtainNew_100 (fun r σ hq => ?_)
        obtain ⟨rfl, b, rfl, hb2⟩ := hq
        refine z_if_eq C 109 (by omega) d_X_obtainNew_103 (by decide) (fun h103 => ?_) (fun h103 => ?_)
        · refine z_aload_n C d_X_obtainNew_109 rfl ?_
          refine z_get C in_X (hx2.2.1) rfl 4 (by decide) tw_fl_X_30 rfl rfl d_X_obtainNew_110 ?_
          refine z_iload C d_X_obtainNew_113 rfl ?_
          refine z_iload C d_X_obtainNew_115 rfl ?_
          refine z_iadd C d_X_obtainNew_117 ?_
          refine z_lload C d_X_obtainNew_118 rfl ?_
          refine x_gath C hx2 (4 * p + j) (by omega) (by omega) d_X_obtainNew_120 (fun σ3 hx3 hF3 => ?_)
          refine z_iinc C d_X_obtainNew_121 rfl (by decide) ?_
          refine z_goto C 42 d_X_obtainNew_124 (by decide) ?_
          rw [e0 (by omega)]
          have jj := ih (j + 1) u2 (iup vs j v) mkr2 (sup g2 1 (4 * p + j) v) σ3 (by omega) hI2 hG2 hx3 (hF2.tr hF3) (fun q h1 h2 t ht => by
            show iup (g2 1) (4 * p + j) v (4 * q + t) = _
            rw [iup_n (by omega)]
            exact hq1 q h1 h2 t ht) (fun t ht => by
            show iup (g2 1) (4 * p + j) v (4 * p + t) = _
            by_cases e : t = j
            · subst e; rw [iup_s, iup_s]
            · rw [iup_n (by omega), iup_n e]; exact hq2 t (by omega)) (fun t => by
            by_cases e : t = j
            · subst e; rw [iup_s]; omega
            · rw [iup_n e]; exact hvr t) hk2 (some (jv v)) none
          rw [show ((j + 1 : Nat) : Int) = (j : Int) + 1 from by omega] at jj
          exact jj
        · refine z_lload C d_X_obtainNew_106 rfl ?_
          exact z_lret C d_X_obtainNew_108 (Nat.le_of_eq rfl) (Nat.le_of_eq rfl) (by rw [e1 (by omega), show rend p (v, u2, vs) = (v, u2) from if_pos (by omega)]; exact ⟨rfl, mkr2, g2, hq1, hx2, hF2⟩)
      refine z_iload C d_X_obtainNew_42 rfl ?_
      refine z_aload_n C d_X_obtainNew_44 rfl ?_
      refine z_getN C in_N (hn1) rfl 2 (by decide) nl_47 rfl rfl d_X_obtainNew_45 ?_
      refine z_icmp_ge C 127 (by omega) (by omega) d_X_obtainNew_48 (by decide) (fun h48 => absurd h48 (by omega)) (fun h48 => ?_)
      refine z_aload_n C d_X_obtainNew_51 rfl ?_
      refine z_getN C in_N (hn1) rfl 1 (by decide) nl_111 rfl rfl d_X_obtainNew_52 ?_
      refine z_iload C d_X_obtainNew_55 rfl ?_
      refine z_zald C 1 rfl hl1 j rfl (by omega) (by decide) d_X_obtainNew_57 ?_
      refine z_if_eq C 78 (by omega) d_X_obtainNew_58 (by decide) (fun h58 => ?_) (fun h58 => ?_)
      · refine z_aload_n C d_X_obtainNew_78 rfl ?_
        refine z_aload_n C d_X_obtainNew_79 rfl ?_
        refine z_getN C in_B (ha1) rfl 1 (by decide) nl_115 rfl rfl d_X_obtainNew_80 ?_
        refine z_aload_n C d_X_obtainNew_83 rfl ?_
        refine z_getN C in_N (hn1) rfl 0 (by decide) nl_118 rfl rfl d_X_obtainNew_84 ?_
        refine z_iload C d_X_obtainNew_87 rfl ?_
        refine z_iald C 0 rfl hk1 j rfl (by omega) (by decide) d_X_obtainNew_89 ?_
        refine z_top (w := iv (((kf j).toNat : Nat) : Int)) (by rw [show kf j = (((kf j).toNat : Nat) : Int) from by omega, Int.toNat_natCast]) ?_
        refine z_iload_n C d_X_obtainNew_90 rfl ?_
        refine z_iconst C d_X_obtainNew_91 ?_
        refine z_iadd C d_X_obtainNew_92 ?_
        refine z_top (w := iv (37 - (d : Int))) (by rw [show 36 - (d : Int) + 1 = 37 - (d : Int) from by omega]) ?_
        refine z_callV C hKl (hOB u W bnd mkr1 g1 _ (p / 12) (kf j).toNat hIu hx1 (by omega) (by omega)) (zgood (fun _ h => h) tw_co_X_obtain) rfl (hX1) rfl tw_ml_X_150 tw_im_X_obtain tw_se_X_obtain tw_in_X pd_X_obtain (by constructor <;> (simp only [zroom]; omega)) rfl (Nat.le_of_ble_eq_true rfl) ⟨Nat.le_of_eq rfl, Nat.le_of_eq rfl⟩ d_X_obtainNew_93 (fun r σ2 hq => ?_)
        obtain ⟨rfl, mkr2, g2, hq1, hx2, hF2⟩ := hq
        have ekf : kf j = u 9 (4 * p + j) := by rw [hkz.1, stt 9 rfl]
        have ok := rget_ok d W u (p / 12) (kf j).toNat hIu (by omega) (by omega)
        have okq := rget_kq (p := p) d W hW u (p / 12) (kf j).toNat hIu (by omega) (by omega)
        rw [← ekf] at er
        generalize rget d W u (p / 12) (kf j).toNat = r at ok okq hx2 er ⊢
        obtain ⟨k1, k2, k3, k4⟩ := ok
        exact tail r.1 r.2 mkr2 g2 σ2 k3 k4 (fun z => by rw [er, if_neg (by omega), if_pos z]) (fun z => by rw [er, if_neg (by omega), if_neg (by omega)]) k1 (hgr.tr k2) hx2 (hF1.tr hF2) (fun q h1 h2 t ht => (hq1 q h1 t ht).trans (hr1 q h1 h2 t ht)) (fun t ht => (hq1 p hW t (by omega)).trans (hr2 t ht)) ⟨okq.1.trans hkq.1, okq.2.trans hkq.2⟩ _ _
      · refine z_aload_n C d_X_obtainNew_61 rfl ?_
        refine z_getN C in_B (ha1) rfl 1 (by decide) nl_115 rfl rfl d_X_obtainNew_62 ?_
        refine z_aload_n C d_X_obtainNew_65 rfl ?_
        refine z_getN C in_N (hn1) rfl 0 (by decide) nl_118 rfl rfl d_X_obtainNew_66 ?_
        refine z_iload C d_X_obtainNew_69 rfl ?_
        refine z_iald C 0 rfl hk1 j rfl (by omega) (by decide) d_X_obtainNew_71 ?_
        refine z_callS C hKl (cX_handleOf ((p / 12 : Nat) : Int) (kf j) (by omega) (by omega)) (zgood (fun _ h => h) tw_co_X_handleOf) rfl tw_ml_X_183 tw_st_X_handleOf tw_in_X pd_X_handleOf (by constructor <;> (simp only [zroom]; omega)) rfl (Nat.le_of_ble_eq_true rfl) ⟨Nat.le_of_eq rfl, Nat.le_of_eq rfl⟩ d_X_obtainNew_72 (fun r σ hq => ?_)
        obtain ⟨rfl, rfl⟩ := hq
        refine z_goto C 96 d_X_obtainNew_75 (by decide) ?_
        exact tail (20000000000 + 16 * ((p / 12 : Nat) : Int) + kf j) u mkr1 g1 _ (by omega) (by omega) (fun z => absurd z (by omega)) (fun _ => by rw [er, if_pos (by omega), hkz.1, stt 9 rfl]) hIu hgr hx1 hF1 hr1 hr2 hkq _ _
  have k19 : ¬ (s 7 p = 2 ∧ s 15 0 = 0) → zJ K D vwCl A 8 (zQ K D vwCl A (fun r σ' => r = some (jv (rnw d W s p).1) ∧ ∃ (mkr' : Nat → Option Nat) (g' : Nat → Nat → Int), (∀ q, W q = true → q ≠ p → ∀ t, t < 4 → g' 1 (4 * q + t) = g 1 (4 * q + t)) ∧ xG cI cZ cJ cB X O bnd mkr' g' (rnw d W s p).2 (fun q => kpt (rnw d W s p).2 q - 1) (wkf W) σ' ∧ xF O σ σ') (zroom (2 * d + 3) 0 0).cells (zroom (2 * d + 3) 0 0).slots) 0 0 σ 19 [some (.ref (X 0)), some (.ref a), some (iv (36 - (d : Int))), none, none, none, none, none] [] := by
    intro hno
    rw [show rnw d W s p = rend p (rneeds (rget d W) p (s 8 p).toNat 0 s (fun _ => 0)) from if_neg hno]
    refine z_aload_n C d_X_obtainNew_19 rfl ?_
    refine z_getN C in_B (ha) rfl 5 (by decide) nl_108 rfl rfl d_X_obtainNew_20 ?_
    refine z_astore_n C d_X_obtainNew_23 (by decide) ?_
    refine z_aload_n C d_X_obtainNew_24 rfl ?_
    refine z_getN C in_B (ha) rfl 1 (by decide) nl_115 rfl rfl d_X_obtainNew_25 ?_
    refine z_aload_n C d_X_obtainNew_28 rfl ?_
    refine z_getN C in_B (ha) rfl 2 (by decide) nl_121 rfl rfl d_X_obtainNew_29 ?_
    refine z_callS C hKl (cX_pairOf ((p / 12 : Nat) : Int) ((p % 12 : Nat) : Int)) (zgood (fun _ h => h) tw_co_X_pairOf) rfl tw_ml_X_58 tw_st_X_pairOf tw_in_X pd_X_pairOf (by constructor <;> (simp only [zroom]; omega)) rfl (Nat.le_of_ble_eq_true rfl) ⟨Nat.le_of_eq rfl, Nat.le_of_eq rfl⟩ d_X_obtainNew_32 (fun r σ hq => ?_)
    obtain ⟨rfl, rfl⟩ := hq
    refine z_iconst C d_X_obtainNew_35 ?_
    refine z_imul C d_X_obtainNew_36 ?_
    refine z_top (w := iv ((4 * p : Nat) : Int)) (by rw [show (((p / 12 : Nat) : Int) * 12 + ((p % 12 : Nat) : Int)) * 4 = ((4 * p : Nat) : Int) from by omega]) ?_
    refine z_istore C d_X_obtainNew_37 (by decide) ?_
    refine z_iconst C d_X_obtainNew_39 ?_
    refine z_istore C d_X_obtainNew_40 (by decide) ?_
    exact loop (s 8 p).toNat 0 s (fun _ => 0) mkr g _ (by omega) hI (grow.rf s) hx xF.rf (fun _ _ _ _ _ => rfl) (fun t ht => absurd ht (by omega)) (fun _ => by omega) ⟨rfl, rfl⟩ none none
  refine z_aload_n C d_X_obtainNew_0 rfl ?_
  refine z_getN C in_B (ha) rfl 4 (by decide) nl_88 rfl rfl d_X_obtainNew_1 ?_
  refine z_iconst C d_X_obtainNew_4 ?_
  refine z_icmp_ne C 19 (by omega) (by omega) d_X_obtainNew_5 (by decide) (fun h5 => ?_) (fun h5 => ?_)
  · exact k19 (by omega)
  · refine z_aload_n C d_X_obtainNew_8 rfl ?_
    refine z_get C in_X (hX) rfl 8 (by decide) tw_fl_X_80 rfl rfl d_X_obtainNew_9 ?_
    refine z_if_ne C 19 (by omega) d_X_obtainNew_12 (by decide) (fun h12 => ?_) (fun h12 => ?_)
    · exact k19 (by omega)
    · refine z_ldc2 C (-4) tw_kl_X_181 d_X_obtainNew_15 ?_
      exact z_lret C d_X_obtainNew_18 (Nat.le_of_eq rfl) (Nat.le_of_eq rfl) (by rw [show rnw d W s p = (-4, s) from if_pos (by omega)]; exact ⟨rfl, mkr, g, fun _ _ _ _ _ => rfl, hx, xF.rf⟩)
end XC4
