set_option maxRecDepth 100000 in
set_option maxHeartbeats 4000000 in
/-- THE LAW'S LOOP: after n calls both worlds stand at one state -/
theorem law_loop {l : Launch} {K : zC} {D : va_G} {A : Nat → Prop} {cI cZ cJ cB : ClassId} {F : State → Prop} {m0 : Nat} {ad : Nat → Nat} {Q : State → Prop} {b L : Nat} {xs : Nat → Int32} {nm9 : String} (hKl : K.2.1 = l) (C : zCx K D vwCl A (ztys cI cZ cJ cB) F room_1 c_L_law "InjectorTreeLaw" nm9 zw 4 (some .boolean)) (hS : zSc K A b L xs) (hL : L ≤ 2048)
    (fin : ∀ (cells slots : Nat) (σ : zh) (lv : List (Option Value)), cells ≤ 600000 → slots ≤ 7302250 → zJ K D vwCl A 4 Q cells slots σ 642 lv []) :
    ∀ (r n : Nat) (X : Nat → Nat) (O : Nat → Prop) (s : St) (σ : zh), L < 4 * n + 4 * r → 4 * n ≤ L → zF A X = F → LWd cI cZ cJ cB X O m0 ad s σ → zJ K D vwCl A 4 Q (33 + 4 * n) (3134 + 19 * n) σ 18 [some (.ref b), some (.ref (X 0)), some (.ref m0), some (iv ((4 * n : Nat) : Int))] [] := by
  intro r
  induction r with
  | zero =>
    intro n X O s σ h1 h2
    exact absurd h1 (by omega)
  | succ r ih =>
    intro n X O s σ h1 h2 hF hw
    subst hF
    have nx : 4 * n + 4 ≤ L → LNX K D A cI cZ cJ cB Q (33 + 4 * n) (3134 + 19 * n) b n m0 ad X := by
      intro hn4 X' O' s' σ' hE hw'
      refine z_iinc C d_L_law_636 rfl (by decide) ?_
      refine z_goto C 18 d_L_law_639 (by decide) ?_
      have j := ih (n + 1) X' O' s' σ' (by omega) (by omega) (zF_cg hE.2.1 hE.2.2.1 hE.2.2.2) hw'
      rw [hE.1, show 33 + 4 * (n + 1) = 33 + 4 * n + 4 from by omega, show 3134 + 19 * (n + 1) = 3134 + 19 * n + 19 from by omega, show ((4 * (n + 1) : Nat) : Int) = ((4 * n : Nat) : Int) + 4 from by omega] at j
      exact j
    refine z_iload_n C d_L_law_18 rfl ?_
    refine z_aload_n C d_L_law_19 rfl ?_
    refine z_slen C hS d_L_law_20 ?_
    refine z_iconst C d_L_law_21 ?_
    refine z_isub C d_L_law_22 ?_
    refine z_icmp_gt C 642 (by omega) (by omega) d_L_law_23 (by decide) (fun h23 => ?_) (fun h23 => ?_)
    · exact fin _ _ _ _ (by omega) (by omega)
    · have nx := nx (by omega)
      refine z_aload_n C d_L_law_26 rfl ?_
      refine z_iload_n C d_L_law_27 rfl ?_
      refine z_sld C hS (4 * n) rfl (by omega) (by omega) d_L_law_28 ?_
      refine z_bipush C d_L_law_29 (by decide) ?_
      refine z_and31 C d_L_law_31 (fun v hv => ?_)
      by_cases c17 : v ≤ 16
      · have hv17 : v = 0 ∨ v = 1 ∨ v = 2 ∨ v = 3 ∨ v = 4 ∨ v = 5 ∨ v = 6 ∨ v = 7 ∨ v = 8 ∨ v = 9 ∨ v = 10 ∨ v = 11 ∨ v = 12 ∨ v = 13 ∨ v = 14 ∨ v = 15 ∨ v = 16 := by omega
        rcases hv17 with rfl | rfl | rfl | rfl | rfl | rfl | rfl | rfl | rfl | rfl | rfl | rfl | rfl | rfl | rfl | rfl | rfl
        · exact z_tableIn C 116 (by omega) d_L_law_32 (by decide) (by decide) rfl (by decide) (law_0 hKl C hS (by omega) hL (by omega) hw nx)
        · exact z_tableIn C 139 (by omega) d_L_law_32 (by decide) (by decide) rfl (by decide) (law_1 hKl C hS (by omega) hL (by omega) hw nx)
        · exact z_tableIn C 188 (by omega) d_L_law_32 (by decide) (by decide) rfl (by decide) (law_2 hKl C hS (by omega) hL (by omega) hw nx)
        · exact z_tableIn C 201 (by omega) d_L_law_32 (by decide) (by decide) rfl (by decide) (law_3 hKl C hS (by omega) hL (by omega) hw nx)
        · exact z_tableIn C 244 (by omega) d_L_law_32 (by decide) (by decide) rfl (by decide) (law_4 hKl C hS (by omega) hL (by omega) hw nx)
        · exact z_tableIn C 287 (by omega) d_L_law_32 (by decide) (by decide) rfl (by decide) (law_5 hKl C hS (by omega) hL (by omega) hw nx)
        · exact z_tableIn C 330 (by omega) d_L_law_32 (by decide) (by decide) rfl (by decide) (law_6 hKl C hS (by omega) hL (by omega) hw nx)
        · exact z_tableIn C 363 (by omega) d_L_law_32 (by decide) (by decide) rfl (by decide) (law_7 hKl C hS (by omega) hL (by omega) hw nx)
        · exact z_tableIn C 376 (by omega) d_L_law_32 (by decide) (by decide) rfl (by decide) (law_8 hKl C hS (by omega) hL (by omega) hw nx)
        · exact z_tableIn C 389 (by omega) d_L_law_32 (by decide) (by decide) rfl (by decide) (law_9 hKl C hS (by omega) hL (by omega) hw nx)
        · exact z_tableIn C 423 (by omega) d_L_law_32 (by decide) (by decide) rfl (by decide) (law_10 hKl C hS (by omega) hL (by omega) hw nx)
        · exact z_tableIn C 457 (by omega) d_L_law_32 (by decide) (by decide) rfl (by decide) (law_11 hKl C hS (by omega) hL (by omega) hw nx)
        · exact z_tableIn C 491 (by omega) d_L_law_32 (by decide) (by decide) rfl (by decide) (law_12 hKl C hS (by omega) hL (by omega) hw nx)
        · exact z_tableIn C 524 (by omega) d_L_law_32 (by decide) (by decide) rfl (by decide) (law_13 hKl C hS (by omega) hL (by omega) hw nx)
        · exact z_tableIn C 547 (by omega) d_L_law_32 (by decide) (by decide) rfl (by decide) (law_14 hKl C hS (by omega) hL (by omega) hw nx)
        · exact z_tableIn C 580 (by omega) d_L_law_32 (by decide) (by decide) rfl (by decide) (law_15 hKl C hS (by omega) hL (by omega) hw nx)
        · exact z_tableIn C 613 (by omega) d_L_law_32 (by decide) (by decide) rfl (by decide) (law_16 hKl C hS (by omega) hL (by omega) hw nx)
      · exact z_tableOut C 636 (by omega) d_L_law_32 (Or.inr (by omega)) (by decide) (z_widen (by omega) (by omega) (nx X O s σ ⟨rfl, rfl, rfl, rfl⟩ hw))
theorem xG.res {cI cZ cJ cB : ClassId} {X : Nat → Nat} {O : Nat → Prop} {bnd mkr : Nat → Option Nat} {g : Nat → Nat → Int} {σ : zh} {s : St} {kp wk : Nat → Int} (hx : xG cI cZ cJ cB X O bnd mkr g s kp wk σ) : xG cI cZ cJ cB X (fun b => O b ∧ ∃ e, σ b = some e) bnd mkr g s kp wk σ := by
  obtain ⟨hO, hX, h1, h2, h3, h4, h5, hB, hBf, hbn, hmk, hvl, hwk, hkp, hk⟩ := hx
  have tN : ∀ {nd ka la : Nat} {sz : Int} {kf zf : Nat → Int}, NDk cI cZ O σ nd ka la sz kf zf → NDk cI cZ (fun b => O b ∧ ∃ e, σ b = some e) σ nd ka la sz kf zf := fun ⟨k1, k2, k3, k4, k5⟩ => ⟨⟨⟨k1.1, _, k2⟩, ⟨k1.2.1, _, k3⟩, ⟨k1.2.2, _, k4⟩⟩, k2, k3, k4, k5⟩
  have tB : ∀ {b kd : Nat} {inj key con sc kept iw sz : Int} {kf zf : Nat → Int}, BB cI cZ X O σ b kd inj key con sc kept iw sz kf zf → BB cI cZ X (fun b => O b ∧ ∃ e, σ b = some e) σ b kd inj key con sc kept iw sz kf zf := fun ⟨q1, nd, ka, la, q2, q3, q4⟩ => ⟨⟨q1, _, q2⟩, nd, ka, la, q2, tN q3, q4⟩
  refine ⟨⟨⟨hO.1, _, hX⟩, ⟨hO.2.1, _, h1⟩, ⟨hO.2.2.1, _, h2⟩, ⟨hO.2.2.2.1, _, h3⟩, ⟨hO.2.2.2.2.1, _, h4⟩, ⟨hO.2.2.2.2.2, _, h5⟩⟩, hX, h1, h2, h3, h4, h5, ⟨tN hB.1, hB.2⟩, hBf, fun p hp => ?_, fun i hi => ?_, hvl, hwk, hkp, hk⟩
  · rcases hbn p hp with z | ⟨a, kd, con, sc, sz, kf, zf, z1, z2, z3⟩
    · exact Or.inl z
    · exact Or.inr ⟨a, kd, con, sc, sz, kf, zf, z1, tB z2, z3⟩
  · obtain ⟨a, kd, con, kept, iw, kf, zf, z1, z2, z3⟩ := hmk i hi
    exact ⟨a, kd, con, kept, iw, kf, zf, z1, tB z2, z3⟩
theorem dv_X : ∀ j, j < 9 → defaultValue (t_X j) = vp_V [.null, .null, .null, .null, .null, .null, .int 0, .int 0, .int 0] j := by
  intro j hj
  have h : j = 0 ∨ j = 1 ∨ j = 2 ∨ j = 3 ∨ j = 4 ∨ j = 5 ∨ j = 6 ∨ j = 7 ∨ j = 8 := by omega
  rcases h with rfl | rfl | rfl | rfl | rfl | rfl | rfl | rfl | rfl <;> rfl
theorem dv_M : ∀ j, j < 28 → defaultValue (t_M j) = vp_V [.null, .int 0, .null, .null, .int 0, .null, .null, .null, .null, .null, .null, .null, .null, .null, .null, .int 0, .null, .null, .null, .null, .null, .null, .null, .int 0, .null, .null, .null, .int 0] j := by
  intro j hj
  have h : j = 0 ∨ j = 1 ∨ j = 2 ∨ j = 3 ∨ j = 4 ∨ j = 5 ∨ j = 6 ∨ j = 7 ∨ j = 8 ∨ j = 9 ∨ j = 10 ∨ j = 11 ∨ j = 12 ∨ j = 13 ∨ j = 14 ∨ j = 15 ∨ j = 16 ∨ j = 17 ∨ j = 18 ∨ j = 19 ∨ j = 20 ∨ j = 21 ∨ j = 22 ∨ j = 23 ∨ j = 24 ∨ j = 25 ∨ j = 26 ∨ j = 27 := by omega
  rcases h with rfl | rfl | rfl | rfl | rfl | rfl | rfl | rfl | rfl | rfl | rfl | rfl | rfl | rfl | rfl | rfl | rfl | rfl | rfl | rfl | rfl | rfl | rfl | rfl | rfl | rfl | rfl | rfl <;> rfl
set_option maxRecDepth 100000 in
set_option maxHeartbeats 4000000 in
theorem law_all {l : Launch} {K : zC} {D : va_G} {A : Nat → Prop} {cI cZ cJ cB : ClassId} {X : Nat → Nat} {Q : State → Prop} {b L : Nat} {xs : Nat → Int32} {nm9 : String} (hKl : K.2.1 = l) (C : zCx K D vwCl A (ztys cI cZ cJ cB) (zF A X) room_1 c_L_law "InjectorTreeLaw" nm9 zw 4 (some .boolean)) (hS : zSc K A b L xs) (hL : L ≤ 2048) (hkd : X 9 ≠ X 10 ∧ X 9 ≠ X 11 ∧ X 10 ≠ X 11)
    (fin : ∀ (cells slots : Nat) (σ : zh) (lv : List (Option Value)), cells ≤ 600000 → slots ≤ 7302250 → zJ K D vwCl A 4 Q cells slots σ 642 lv []) : zJ K D vwCl A 4 Q 0 0 (fun _ => none) 0 (zent [.ref b] 4) [] := by
  refine z_new C in_X t_X tk_X tw_cl_L_7 tw_is_X tw_in_X (ci := 2) rfl dv_X (by decide) (by decide) d_L_law_0 (fun x0 hfx => ?_)
  refine z_dup C rfl d_L_law_3 ?_
  refine z_callI (ret2 := none) C hKl (cX_init x0 (zput_s _ _ _) hkd) (zgood (fun _ h => h) tw_co_X_init) rfl tw_ml_L_9 tw_im_X_init tw_in_X rfl pd_X_init (by decide) rfl (Nat.le_of_ble_eq_true rfl) (by decide) d_L_law_4 (fun r σ1 hq => ?_)
  obtain ⟨rfl, X', O', e0, e9, e10, e11, ⟨bnd, mkr, g, hx⟩, hfr⟩ := hq
  have hx := hx.res
  refine z_astore_n C d_L_law_7 (by decide) ?_
  refine z_new C in_M t_M tk_M tw_cl_L_10 tw_is_M tw_in_M (ci := 3) rfl dv_M (by decide) (by decide) d_L_law_8 (fun m0 hfm => ?_)
  refine z_dup C rfl d_L_law_11 ?_
  refine z_callI (ret2 := none) C hKl (cM_init (m0 := m0) (zF_ok A X) (zput_s _ _ _)) (zgood (fun _ h => h) tw_co_M_init) rfl tw_ml_L_12 tw_im_M_init tw_in_M rfl pd_M_init (by decide) rfl (Nat.le_of_ble_eq_true rfl) (by decide) d_L_law_12 (fun r σ3 hq => ?_)
  obtain ⟨rfl, ad, hRM, hfr2⟩ := hq
  have keep : ∀ b e, σ1 b = some e → σ3 b = some e ∧ ¬ MA m0 ad b := fun b e q => hfr2 b e (by rw [zput_n (hfm b e q)]; exact q) (hfm b e q)
  have hw : LWd cI cZ cJ cB X' (fun b => O' b ∧ ∃ e, σ1 b = some e) m0 ad s00 σ3 := ⟨hRM, ⟨bnd, mkr, g, hx.fr2 (fun _ h => h) (fun b e _ q => (keep b e q).1)⟩, fun b hb hO => (keep b _ hO.2.choose_spec).2 hb, Inv.s0, VI.s0⟩
  refine z_astore_n C d_L_law_15 (by decide) ?_
  refine z_iconst C d_L_law_16 ?_
  refine z_istore_n C d_L_law_17 (by decide) ?_
  have j := law_loop hKl C hS hL fin (L + 1) 0 X' _ s00 σ3 (by omega) (by omega) (zF_cg e9 e10 e11) hw
  rw [e0] at j
  exact j
