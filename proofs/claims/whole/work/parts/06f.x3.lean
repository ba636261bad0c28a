section XC3
variable {l : Launch} {D : va_G} {A : Nat → Prop} {cI cZ cJ cB : ClassId} {X : Nat → Nat} {O : Nat → Prop} {bnd mkr : Nat → Option Nat} {g : Nat → Nat → Int} {σ : zh} {s : St} {kp wk : Nat → Int}
set_option maxRecDepth 100000 in
set_option maxHeartbeats 4000000 in
theorem cX_makeInstance {p a : Nat} (hI : Inv s) (hx : xG cI cZ cJ cB X O bnd mkr g s (fun q => kpt s q - 1) wk σ) (hp : p < 36) (hb : bnd p = some a) (h5p : s 5 p = 3) (hm : s 23 0 < 100) (hk0 : kpt s p = 0) (vs : Nat → Int) (hvs : ∀ j : Nat, (j : Int) < s 8 p → g 1 (4 * p + j) = vs j) : zM l D vwCl A (ztys cI cZ cJ cB) (zF A X) y_X_makeInstance ws_X_makeInstance (zroom 1 0 0) [.ref (X 0), .ref a, iv ((4 * p : Nat) : Int)] σ (fun r σ' => r = some (iv (s 23 0)) ∧ ∃ (mkr' : Nat → Option Nat) (g' : Nat → Nat → Int), g' 1 = g 1 ∧ xG cI cZ cJ cB X O bnd mkr' g' (mk s p vs) (fun q => kpt (mk s p vs) q - 1) wk σ' ∧ xF O σ σ') := by
  refine zMet2 (zF_ok A X) (by decide) (Nat.le_of_ble_eq_true rfl) (fun K hKl C => ?_)
  obtain ⟨hO, hX, h1, h2, h3, h4, h5, hB, hBf, hbn, hmk, hvl, hwk, hkp, hk1, hk2, hk3⟩ := id hx
  have hmd := hI.md
  obtain ⟨kd, nd, con, sc, hsc, hOa, ha⟩ : ∃ (kd nd : Nat) (con sc : Int), sc = s 7 p ∧ O a ∧ σ a = some (ob 0 [.ref kd, iv ((p / 12 : Nat) : Int), iv ((p % 12 : Nat) : Int), iv con, iv sc, .ref nd, iv (kpt s p - 1), iv (wk p)]) := by
    rcases hbn p hp with z | ⟨b, kd, con, sc, sz, kf, zf, z1, z2, z3⟩
    · rw [hb] at z; cases z.1
    · rw [hb] at z1
      cases z1
      obtain ⟨y1, nd, ka, la, y2, -⟩ := z2
      rcases z3 with z3 | z3 | z3
      · have := z3.1; omega
      · have := z3.1; omega
      · exact ⟨kd, nd, con, sc, z3.2.2.1, y1, y2⟩
  have hscr := hI.sc p
  refine z_aload_n C d_X_makeInstance_0 rfl ?_
  refine z_get C in_X (hX) rfl 7 (by decide) tw_fl_X_143 rfl rfl d_X_makeInstance_1 ?_
  refine z_istore_n C d_X_makeInstance_4 (by decide) ?_
  refine z_aload_n C d_X_makeInstance_5 rfl ?_
  refine z_dup C rfl d_X_makeInstance_6 ?_
  refine z_get C in_X (hX) rfl 7 (by decide) tw_fl_X_143 rfl rfl d_X_makeInstance_7 ?_
  refine z_iconst C d_X_makeInstance_10 ?_
  refine z_iadd C d_X_makeInstance_11 ?_
  refine z_put C in_X t_X tk_X nm_X hX rfl 7 (by decide) tw_fl_X_143 rfl rfl (tk_X 7 (by decide)) rfl rfl (Nat.le_of_ble_eq_true rfl) d_X_makeInstance_12 ?_
  refine z_eq (σ' := (zput σ (X 0) (ob 2 [.ref (X 1), .ref (X 2), .ref (X 3), .ref (X 4), .ref (X 5), .ref (X 6), iv (s 1 0), iv (s 23 0 + 1), iv (s 15 0)]))) rfl rfl rfl ?_
  refine z_aload_n C d_X_makeInstance_15 rfl ?_
  have q0 : (zput σ (X 0) (ob 2 [.ref (X 1), .ref (X 2), .ref (X 3), .ref (X 4), .ref (X 5), .ref (X 6), iv (s 1 0), iv (s 23 0 + 1), iv (s 15 0)])) (X 0) = some (ob 2 [.ref (X 1), .ref (X 2), .ref (X 3), .ref (X 4), .ref (X 5), .ref (X 6), iv (s 1 0), iv (s 23 0 + 1), iv (s 15 0)]) := zput_s _ _ _
  have q3 : (zput σ (X 0) (ob 2 [.ref (X 1), .ref (X 2), .ref (X 3), .ref (X 4), .ref (X 5), .ref (X 6), iv (s 1 0), iv (s 23 0 + 1), iv (s 15 0)])) (X 3) = some (ra cB 100 mkr) := zput_o hX h3 (by intro h; cases h)
  have qa : (zput σ (X 0) (ob 2 [.ref (X 1), .ref (X 2), .ref (X 3), .ref (X 4), .ref (X 5), .ref (X 6), iv (s 1 0), iv (s 23 0 + 1), iv (s 15 0)])) a = some (ob 0 [.ref kd, iv ((p / 12 : Nat) : Int), iv ((p % 12 : Nat) : Int), iv con, iv sc, .ref nd, iv (kpt s p - 1), iv (wk p)]) := zput_o hX ha (by intro h; cases h)
  have q4 : (zput σ (X 0) (ob 2 [.ref (X 1), .ref (X 2), .ref (X 3), .ref (X 4), .ref (X 5), .ref (X 6), iv (s 1 0), iv (s 23 0 + 1), iv (s 15 0)])) (X 4) = some (la cJ 400 (g 0)) := zput_o hX h4 (by intro h; cases h)
  have q5 : (zput σ (X 0) (ob 2 [.ref (X 1), .ref (X 2), .ref (X 3), .ref (X 4), .ref (X 5), .ref (X 6), iv (s 1 0), iv (s 23 0 + 1), iv (s 15 0)])) (X 5) = some (la cJ 144 (g 1)) := zput_o hX h5 (by intro h; cases h)
  refine z_get C in_X (q0) rfl 2 (by decide) tw_fl_X_23 rfl rfl d_X_makeInstance_16 ?_
  refine z_iload_n C d_X_makeInstance_19 rfl ?_
  refine z_aload_n C d_X_makeInstance_20 rfl ?_
  refine z_aast C 3 rfl q3 qa rfl (s 23 0).toNat (by omega) (by omega) (by decide) d_X_makeInstance_21 ?_
  have u0 : (zput (zput σ (X 0) (ob 2 [.ref (X 1), .ref (X 2), .ref (X 3), .ref (X 4), .ref (X 5), .ref (X 6), iv (s 1 0), iv (s 23 0 + 1), iv (s 15 0)])) (X 3) (ra cB 100 (va_up mkr (s 23 0).toNat (some a)))) (X 0) = some (ob 2 [.ref (X 1), .ref (X 2), .ref (X 3), .ref (X 4), .ref (X 5), .ref (X 6), iv (s 1 0), iv (s 23 0 + 1), iv (s 15 0)]) := zput_o q3 q0 (by intro h; cases h)
  have ua : (zput (zput σ (X 0) (ob 2 [.ref (X 1), .ref (X 2), .ref (X 3), .ref (X 4), .ref (X 5), .ref (X 6), iv (s 1 0), iv (s 23 0 + 1), iv (s 15 0)])) (X 3) (ra cB 100 (va_up mkr (s 23 0).toNat (some a)))) a = some (ob 0 [.ref kd, iv ((p / 12 : Nat) : Int), iv ((p % 12 : Nat) : Int), iv con, iv sc, .ref nd, iv (kpt s p - 1), iv (wk p)]) := zput_o q3 qa (by intro h; cases h)
  have u4 : (zput (zput σ (X 0) (ob 2 [.ref (X 1), .ref (X 2), .ref (X 3), .ref (X 4), .ref (X 5), .ref (X 6), iv (s 1 0), iv (s 23 0 + 1), iv (s 15 0)])) (X 3) (ra cB 100 (va_up mkr (s 23 0).toNat (some a)))) (X 4) = some (la cJ 400 (g 0)) := zput_o q3 q4 (by intro h; cases h)
  have u5 : (zput (zput σ (X 0) (ob 2 [.ref (X 1), .ref (X 2), .ref (X 3), .ref (X 4), .ref (X 5), .ref (X 6), iv (s 1 0), iv (s 23 0 + 1), iv (s 15 0)])) (X 3) (ra cB 100 (va_up mkr (s 23 0).toNat (some a)))) (X 5) = some (la cJ 144 (g 1)) := zput_o q3 q5 (by intro h; cases h)
  refine z_aload_n C d_X_makeInstance_22 rfl ?_
  refine z_get C in_X (u0) rfl 4 (by decide) tw_fl_X_30 rfl rfl d_X_makeInstance_23 ?_
  refine z_iload_n C d_X_makeInstance_26 rfl ?_
  refine z_aload_n C d_X_makeInstance_27 rfl ?_
  refine z_get C in_X (u0) rfl 3 (by decide) tw_fl_X_26 rfl rfl d_X_makeInstance_28 ?_
  refine z_iload_n C d_X_makeInstance_31 rfl ?_
  refine z_iconst C d_X_makeInstance_32 ?_
  refine z_imul C d_X_makeInstance_33 ?_
  refine z_iconst C d_X_makeInstance_34 ?_
  refine z_copyl C 2 2 tw_ml_X_192 tw_na_acopy tw_st_acopy tw_in_S rfl rfl u5 u4 (4 * p) (4 * (s 23 0).toNat) 4 (by omega) (by omega) rfl (by omega) (by decide) (Nat.le_of_ble_eq_true rfl) d_X_makeInstance_35 ?_
  have wa : (zput (zput (zput σ (X 0) (ob 2 [.ref (X 1), .ref (X 2), .ref (X 3), .ref (X 4), .ref (X 5), .ref (X 6), iv (s 1 0), iv (s 23 0 + 1), iv (s 15 0)])) (X 3) (ra cB 100 (va_up mkr (s 23 0).toNat (some a)))) (X 4) (la cJ 400 (va_cpy (g 1) (g 0) (4 * p) (4 * (s 23 0).toNat) 4))) a = some (ob 0 [.ref kd, iv ((p / 12 : Nat) : Int), iv ((p % 12 : Nat) : Int), iv con, iv sc, .ref nd, iv (kpt s p - 1), iv (wk p)]) := zput_o u4 ua (by intro h; cases h)
  have hx3 := hx.mkn hI hp hb h5p hm vs hvs
  have hx3 : xG cI cZ cJ cB X O bnd (va_up mkr (s 23 0).toNat (some a)) (srow g 0 (va_cpy (g 1) (g 0) (4 * p) (4 * (s 23 0).toNat) 4)) (mk s p vs) (fun q => kpt s q - 1) wk (zput (zput (zput σ (X 0) (ob 2 [.ref (X 1), .ref (X 2), .ref (X 3), .ref (X 4), .ref (X 5), .ref (X 6), iv (s 1 0), iv (s 23 0 + 1), iv (s 15 0)])) (X 3) (ra cB 100 (va_up mkr (s 23 0).toNat (some a)))) (X 4) (la cJ 400 (va_cpy (g 1) (g 0) (4 * p) (4 * (s 23 0).toNat) 4))) := hx3
  have hf3 : xF O σ (zput (zput (zput σ (X 0) (ob 2 [.ref (X 1), .ref (X 2), .ref (X 3), .ref (X 4), .ref (X 5), .ref (X 6), iv (s 1 0), iv (s 23 0 + 1), iv (s 15 0)])) (X 3) (ra cB 100 (va_up mkr (s 23 0).toNat (some a)))) (X 4) (la cJ 400 (va_cpy (g 1) (g 0) (4 * p) (4 * (s 23 0).toNat) 4))) := (xF.off hO.1 hX (fun _ h => (by cases h)) (fun _ h => (by cases h)) (fun _ _ h => (by cases h))).tr ((xF.off hO.2.2.2.1 q3 (fun _ h => (by cases h)) (fun _ h => (by cases h)) (fun _ _ h => (by cases h))).tr (xF.off hO.2.2.2.2.1 u4 (fun _ h => (by cases h)) (fun _ h => (by cases h)) (fun _ _ h => (by cases h))))
  generalize (zput (zput (zput σ (X 0) (ob 2 [.ref (X 1), .ref (X 2), .ref (X 3), .ref (X 4), .ref (X 5), .ref (X 6), iv (s 1 0), iv (s 23 0 + 1), iv (s 15 0)])) (X 3) (ra cB 100 (va_up mkr (s 23 0).toNat (some a)))) (X 4) (la cJ 400 (va_cpy (g 1) (g 0) (4 * p) (4 * (s 23 0).toNat) 4))) = σ3 at wa hx3 hf3 ⊢
  refine z_aload_n C d_X_makeInstance_38 rfl ?_
  refine z_getN C in_B (wa) rfl 4 (by decide) nl_88 rfl rfl d_X_makeInstance_39 ?_
  refine z_if_eq C 50 (by omega) d_X_makeInstance_42 (by decide) (fun h42 => ?_) (fun h42 => ?_)
  · have ek := kpt_mk hI (p := p) vs hk0
    rw [if_pos (by omega)] at ek
    refine z_iload_n C d_X_makeInstance_50 rfl ?_
    exact z_iret C d_X_makeInstance_51 (by decide) (by decide) (⟨rfl, va_up mkr (s 23 0).toNat (some a), srow g 0 (va_cpy (g 1) (g 0) (4 * p) (4 * (s 23 0).toNat) 4), rfl, by rw [ek]; exact hx3, hf3⟩)
  · refine z_aload_n C d_X_makeInstance_45 rfl ?_
    refine z_iload_n C d_X_makeInstance_46 rfl ?_
    refine x_kept C hx3 hp hb wa (by omega) rfl hOa d_X_makeInstance_47 (fun σ4 hx4 hf4 => ?_)
    have ek := kpt_mk hI (p := p) vs hk0
    rw [if_neg (by omega)] at ek
    refine z_iload_n C d_X_makeInstance_50 rfl ?_
    exact z_iret C d_X_makeInstance_51 (by decide) (by decide) (⟨rfl, va_up mkr (s 23 0).toNat (some a), srow g 0 (va_cpy (g 1) (g 0) (4 * p) (4 * (s 23 0).toNat) 4), rfl, by rw [ek]; exact hx4, hf3.tr hf4⟩)
end XC3
