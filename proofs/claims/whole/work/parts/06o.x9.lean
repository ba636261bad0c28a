theorem dv_B : ∀ j, j < 8 → defaultValue (t_B j) = vp_V [.null, .int 0, .int 0, .int 0, .int 0, .null, .int 0, .int 0] j := fun j hj => match j, hj with
  | 0, _ => rfl
  | 1, _ => rfl
  | 2, _ => rfl
  | 3, _ => rfl
  | 4, _ => rfl
  | 5, _ => rfl
  | 6, _ => rfl
  | 7, _ => rfl
theorem dv_N : ∀ j, j < 3 → defaultValue (t_N j) = vp_V [.null, .null, .int 0] j := fun j hj => match j, hj with
  | 0, _ => rfl
  | 1, _ => rfl
  | 2, _ => rfl
section XC10
variable {l : Launch} {D : va_G} {A : Nat → Prop} {cI cZ cJ cB : ClassId} {X : Nat → Nat} {O : Nat → Prop} {bnd mkr : Nat → Option Nat} {g : Nat → Nat → Int} {σ : zh} {s : St} {kp wk : Nat → Int}
set_option maxRecDepth 100000 in
set_option maxHeartbeats 4000000 in
theorem cX_bindConstant (i k v : Int) (hI : Inv s) (hx : xG cI cZ cJ cB X O bnd mkr g s (fun q => kpt s q - 1) (fun _ => 0) σ) (ri : -2147483648 ≤ i ∧ i ≤ 2147483647) (rk : -2147483648 ≤ k ∧ k ≤ 2147483647) : zM l D vwCl A (ztys cI cZ cJ cB) (zF A X) y_X_bindConstant ws_X_bindConstant (zroom 3 4 19) [.ref (X 0), iv i, iv k, iv v] σ (fun r σ' => r = some (iv (sp_bind s i k 1 v).1) ∧ xP cI cZ cJ cB X O σ (sp_bind s i k 1 v).2 σ') := by
  refine zMet2 (zF_ok A X) (by decide) (Nat.le_of_ble_eq_true rfl) (fun K hKl C => ?_)
  obtain ⟨hO, hX, h1, h2, h3, h4, h5, hB, hBf, hbn, hmk, hvl, hwk, hkp, hk1, hk2, hk3⟩ := id hx
  have hinj := hI.inj
  refine z_aload_n C d_X_bindConstant_0 rfl ?_
  refine z_iload_n C d_X_bindConstant_1 rfl ?_
  refine z_iload_n C d_X_bindConstant_2 rfl ?_
  refine z_callV C hKl (cX_isUnbound i k hI hx ri rk) (zgood (fun _ h => h) tw_co_X_isUnbound) rfl (hX) rfl tw_ml_X_54 tw_im_X_isUnbound tw_se_X_isUnbound tw_in_X pd_X_isUnbound (by decide) rfl (Nat.le_of_ble_eq_true rfl) (by decide) d_X_bindConstant_3 (fun r σ hp => ?_)
  obtain ⟨rfl, b, rfl, hb⟩ := hp
  refine z_if_ne C 11 (by omega) d_X_bindConstant_6 (by decide) (fun h6 => ?_) (fun h6 => ?_)
  · have hb1 : (0 ≤ i ∧ i < s 1 0 ∧ 0 ≤ k ∧ k ≤ 11) ∧ bnd (pr i k) = none := by
      rcases hb with hb | hb
      · exact hb.2
      · have := hb.1; omega
    have hpr : ((pr i k : Nat) : Int) = 12 * i + k := by unfold pr; omega
    have hp36 : pr i k < 36 := by omega
    have h50 : s 5 (pr i k) = 0 := by
      rcases hx.b5 hp36 with z | ⟨a, z, -⟩
      · exact z.2
      · rw [hb1.2] at z; cases z
    have e12 : ((pr i k / 12 : Nat) : Int) = i := by omega
    have e13 : ((pr i k % 12 : Nat) : Int) = k := by omega
    refine z_aload_n C d_X_bindConstant_11 rfl ?_
    refine z_get C in_X (hX) rfl 1 (by decide) tw_fl_X_19 rfl rfl d_X_bindConstant_12 ?_
    refine z_iload_n C d_X_bindConstant_15 rfl ?_
    refine z_iload_n C d_X_bindConstant_16 rfl ?_
    refine z_callS C hKl (cX_pairOf (i) (k)) (zgood (fun _ h => h) tw_co_X_pairOf) rfl tw_ml_X_58 tw_st_X_pairOf tw_in_X pd_X_pairOf (by decide) rfl (Nat.le_of_ble_eq_true rfl) (by decide) d_X_bindConstant_17 (fun r σ hp => ?_)
    obtain ⟨rfl, rfl⟩ := hp
    refine z_new C in_B t_B tk_B tw_cl_X_17 tw_is_B tw_in_B (ci := 0) rfl dv_B (by decide) (by decide) d_X_bindConstant_20 (fun a hfa => ?_)
    refine z_dup C rfl d_X_bindConstant_23 ?_
    refine z_gets C (fun s h => h.2.2.1) tw_fl_X_62 d_X_bindConstant_24 ?_
    refine z_iload_n C d_X_bindConstant_27 rfl ?_
    refine z_iload_n C d_X_bindConstant_28 rfl ?_
    refine z_iload_n C d_X_bindConstant_29 rfl ?_
    refine z_iconst C d_X_bindConstant_30 ?_
    refine z_new C in_N t_N tk_N tw_cl_X_33 tw_is_N tw_in_N (ci := 1) rfl dv_N (by decide) (by decide) d_X_bindConstant_31 (fun nd hfn => ?_)
    have hand : a ≠ nd := hfn a _ (zput_s _ _ _)
    refine z_dup C rfl d_X_bindConstant_34 ?_
    refine z_callINw C hKl (cN_init (nd := nd) (zput_s _ _ _)) (zgood (fun _ h => h) tw_co_N_init) rfl nl_35 tw_im_N_init tw_in_N rfl pd_N_init (by decide) rfl (Nat.le_of_ble_eq_true rfl) (by decide) d_X_bindConstant_35 (fun r σ1 hq => ?_)
    obtain ⟨rfl, ka, la, hkl, hnk, hnl, hfr, g6, g7, g8, gu⟩ := hq
    have hak := hfr a _ (by rw [zput_n hand, zput_s])
    have ha1 : σ1 a = some (ob 0 [.null, .int 0, .int 0, .int 0, .int 0, .null, .int 0, .int 0]) := by rw [gu a hand hak.1 hak.2, zput_n hand, zput_s]
    have old : ∀ b e, σ b = some e → σ1 b = some e ∧ b ≠ a ∧ b ≠ nd ∧ b ≠ ka ∧ b ≠ la := fun b e q => by
      have qa := hfa b e q
      have qn := hfn b e (by rw [zput_n qa]; exact q)
      have qk := hfr b e (by rw [zput_n qn, zput_n qa]; exact q)
      exact ⟨by rw [gu b qn qk.1 qk.2, zput_n qn, zput_n qa]; exact q, qa, qn, qk.1, qk.2⟩
    refine z_callIN (ret2 := none) C hKl (cB_init (a := a) (kd := X 9) (nd := nd) i k v 0 ha1) (zgood (fun _ h => h) tw_co_B_init) rfl nl_68 tw_im_B_init tw_in_B rfl pd_B_init (by decide) rfl (Nat.le_of_ble_eq_true rfl) (by decide) d_X_bindConstant_38 (fun r σ1 hq => ?_)
    obtain ⟨rfl, rfl⟩ := hq
    have hX2 : X 2 ≠ a := (old _ _ h2).2.1
    refine z_aast C 3 rfl (by rw [zput_n hX2]; exact (old _ _ h2).1) (zput_s _ _ _) rfl (pr i k) (by omega) (by omega) (by decide) d_X_bindConstant_41 ?_
    refine z_iconst C d_X_bindConstant_42 ?_
    exact z_iret C d_X_bindConstant_43 (by decide) (by decide) (by
      rw [show sp_bind s i k 1 v = (1, sup (sup s 5 (pr i k) 1) 6 (pr i k) v) from if_neg (by omega)]
      refine ⟨rfl, xP.bind hI hx (s' := sup (sup s 5 (pr i k) 1) 6 (pr i k) v) (a := a) (nd := nd) (ka := ka) (la := la) (kd := X 9) (con := v) (sc := 0) (sz := 0) (kf := fun _ => 0) (zf := fun _ => 0) hp36 h50 (fun b e q => ⟨by rw [zput_n (old b e q).2.1]; exact (old b e q).1, (old b e q).2⟩) (by rw [zput_s, e12, e13]) (by rw [zput_n (Ne.symm hand)]; exact g6) (by rw [zput_n (Ne.symm hak.1)]; exact g7) (by rw [zput_n (Ne.symm hak.2)]; exact g8) (by omega) (fun _ => by show (0 : Int) ≤ 0 ∧ (0 : Int) ≤ 11; omega) (fun _ => Or.inl rfl) (fun f q1 q2 => by rw [sup_n q2, sup_n q1]) (fun q hq => ⟨iup_n hq, iup_n hq⟩) (Or.inl ⟨iup_s _ _ _, rfl, (iup_s _ _ _).symm, rfl, rfl⟩)⟩)
  · refine z_iconst C d_X_bindConstant_9 ?_
    exact z_iret C d_X_bindConstant_10 (by decide) (by decide) (by
      rw [show sp_bind s i k 1 v = (-1, s) from if_pos (by
        apply Classical.byContradiction
        intro h
        rcases hb with hb | hb
        · have := hb.1; omega
        · apply hb.2
          refine ⟨by omega, ?_⟩
          rcases hx.b5 (p := pr i k) (by unfold pr; omega) with z | ⟨a, z, z5⟩
          · exact z.1
          · omega)]
      exact ⟨rfl, xP.of hx xfr.rf⟩)
set_option maxRecDepth 100000 in
set_option maxHeartbeats 4000000 in
theorem cX_bindLink (i k t : Int) (hI : Inv s) (hx : xG cI cZ cJ cB X O bnd mkr g s (fun q => kpt s q - 1) (fun _ => 0) σ) (ri : -2147483648 ≤ i ∧ i ≤ 2147483647) (rk : -2147483648 ≤ k ∧ k ≤ 2147483647) (rt : -2147483648 ≤ t ∧ t ≤ 2147483647) : zM l D vwCl A (ztys cI cZ cJ cB) (zF A X) y_X_bindLink ws_X_bindLink (zroom 3 4 19) [.ref (X 0), iv i, iv k, iv t] σ (fun r σ' => r = some (iv (sp_bindLink s i k t).1) ∧ xP cI cZ cJ cB X O σ (sp_bindLink s i k t).2 σ') := by
  refine zMet2 (zF_ok A X) (by decide) (Nat.le_of_ble_eq_true rfl) (fun K hKl C => ?_)
  obtain ⟨hO, hX, h1, h2, h3, h4, h5, hB, hBf, hbn, hmk, hvl, hwk, hkp, hk1, hk2, hk3⟩ := id hx
  have hinj := hI.inj
  refine z_iload_n C d_X_bindLink_0 rfl ?_
  refine z_callS C hKl (cX_isKey t rt) (zgood (fun _ h => h) tw_co_X_isKey) rfl tw_ml_X_44 tw_st_X_isKey tw_in_X pd_X_isKey (by decide) rfl (Nat.le_of_ble_eq_true rfl) (by decide) d_X_bindLink_1 (fun r σ hp => ?_)
  obtain ⟨rfl, bt, rfl, hbt⟩ := hp
  refine z_if_eq C 16 (by omega) d_X_bindLink_4 (by decide) (fun h4 => ?_) (fun h4 => ?_)
  · refine z_iconst C d_X_bindLink_16 ?_
    exact z_iret C d_X_bindLink_17 (by decide) (by decide) (by rw [show sp_bindLink s i k t = (-1, s) from if_pos (by omega)]; exact ⟨rfl, xP.of hx xfr.rf⟩)
  · refine z_aload_n C d_X_bindLink_7 rfl ?_
    refine z_iload_n C d_X_bindLink_8 rfl ?_
    refine z_iload_n C d_X_bindLink_9 rfl ?_
    refine z_callV C hKl (cX_isUnbound i k hI hx ri rk) (zgood (fun _ h => h) tw_co_X_isUnbound) rfl (hX) rfl tw_ml_X_54 tw_im_X_isUnbound tw_se_X_isUnbound tw_in_X pd_X_isUnbound (by decide) rfl (Nat.le_of_ble_eq_true rfl) (by decide) d_X_bindLink_10 (fun r σ hp => ?_)
    obtain ⟨rfl, b, rfl, hb⟩ := hp
    refine z_if_ne C 18 (by omega) d_X_bindLink_13 (by decide) (fun h13 => ?_) (fun h13 => ?_)
    · have hb1 : (0 ≤ i ∧ i < s 1 0 ∧ 0 ≤ k ∧ k ≤ 11) ∧ bnd (pr i k) = none := by
        rcases hb with hb | hb
        · exact hb.2
        · have := hb.1; omega
      have hpr : ((pr i k : Nat) : Int) = 12 * i + k := by unfold pr; omega
      have hp36 : pr i k < 36 := by omega
      have h50 : s 5 (pr i k) = 0 := by
        rcases hx.b5 hp36 with z | ⟨a, z, -⟩
        · exact z.2
        · rw [hb1.2] at z; cases z
      have e12 : ((pr i k / 12 : Nat) : Int) = i := by omega
      have e13 : ((pr i k % 12 : Nat) : Int) = k := by omega
      refine z_new C in_N t_N tk_N tw_cl_X_33 tw_is_N tw_in_N (ci := 1) rfl dv_N (by decide) (by decide) d_X_bindLink_18 (fun nd hfn => ?_)
      refine z_dup C rfl d_X_bindLink_21 ?_
      refine z_callIN (ret2 := none) C hKl (cN_init (nd := nd) (zput_s _ _ _)) (zgood (fun _ h => h) tw_co_N_init) rfl nl_35 tw_im_N_init tw_in_N rfl pd_N_init (by decide) rfl (Nat.le_of_ble_eq_true rfl) (by decide) d_X_bindLink_22 (fun r σ1 hq => ?_)
      obtain ⟨rfl, ka, la, hkl, hnk, hnl, hfr, g6, g7, g8, gu⟩ := hq
      have old : ∀ b e, σ b = some e → σ1 b = some e ∧ b ≠ nd ∧ b ≠ ka ∧ b ≠ la := fun b e q => by
        have qn := hfn b e q
        have qk := hfr b e (by rw [zput_n qn]; exact q)
        exact ⟨by rw [gu b qn qk.1 qk.2, zput_n qn]; exact q, qn, qk.1, qk.2⟩
      refine z_astore C d_X_bindLink_25 (by decide) ?_
      refine z_aload C d_X_bindLink_27 rfl ?_
      refine z_iload_n C d_X_bindLink_29 rfl ?_
      refine z_iconst C d_X_bindLink_30 ?_
      refine z_callVN C hKl (cN_append t 0 g6 g7 g8 (Ne.symm hkl) (by omega) (Or.inl rfl)) (zgood (fun _ h => h) tw_co_N_append) rfl g6 rfl nl_50 tw_im_N_append tw_se_N_append tw_in_N pd_N_append (by decide) rfl (Nat.le_of_ble_eq_true rfl) (by decide) d_X_bindLink_31 (fun r σ2 hq => ?_)
      obtain ⟨rfl, rfl⟩ := hq
      generalize hσ2 : zput (zput (zput σ1 ka (ia cI 4 (iup (fun _ => 0) (0 : Int).toNat t))) la (ia cZ 4 (iup (fun _ => 0) (0 : Int).toNat 0))) nd (ob 1 [.ref ka, .ref la, iv (0 + 1)]) = σ2
      have old2 : ∀ b e, σ b = some e → σ2 b = some e ∧ b ≠ nd ∧ b ≠ ka ∧ b ≠ la := fun b e q => by
        have q2 := old b e q
        refine ⟨?_, q2.2⟩
        rw [← hσ2, zput_n q2.2.1, zput_n q2.2.2.2, zput_n q2.2.2.1]
        exact q2.1
      have k6 : σ2 nd = some (ob 1 [.ref ka, .ref la, iv 1]) := by rw [← hσ2, zput_s]; rfl
      have k7 : σ2 ka = some (ia cI 4 (iup (fun _ => 0) 0 t)) := by rw [← hσ2, zput_n (Ne.symm hnk), zput_n hkl, zput_s]; rfl
      have k8 : σ2 la = some (ia cZ 4 (iup (fun _ => 0) 0 0)) := by rw [← hσ2, zput_n (Ne.symm hnl), zput_s]; rfl
      refine z_aload_n C d_X_bindLink_34 rfl ?_
      refine z_get C in_X ((old2 _ _ hX).1) rfl 1 (by decide) tw_fl_X_19 rfl rfl d_X_bindLink_35 ?_
      refine z_iload_n C d_X_bindLink_38 rfl ?_
      refine z_iload_n C d_X_bindLink_39 rfl ?_
      refine z_callS C hKl (cX_pairOf (i) (k)) (zgood (fun _ h => h) tw_co_X_pairOf) rfl tw_ml_X_58 tw_st_X_pairOf tw_in_X pd_X_pairOf (by decide) rfl (Nat.le_of_ble_eq_true rfl) (by decide) d_X_bindLink_40 (fun r σ hp => ?_)
      obtain ⟨rfl, rfl⟩ := hp
      refine z_new C in_B t_B tk_B tw_cl_X_17 tw_is_B tw_in_B (ci := 0) rfl dv_B (by decide) (by decide) d_X_bindLink_43 (fun a hfa => ?_)
      have hand : nd ≠ a := hfa _ _ k6
      have hak : ka ≠ a := hfa _ _ k7
      have hal : la ≠ a := hfa _ _ k8
      refine z_dup C rfl d_X_bindLink_46 ?_
      refine z_gets C (fun s h => h.2.2.2.1) tw_fl_X_71 d_X_bindLink_47 ?_
      refine z_iload_n C d_X_bindLink_50 rfl ?_
      refine z_iload_n C d_X_bindLink_51 rfl ?_
      refine z_iconst C d_X_bindLink_52 ?_
      refine z_iconst C d_X_bindLink_53 ?_
      refine z_aload C d_X_bindLink_54 rfl ?_
      refine z_callIN (ret2 := none) C hKl (cB_init (a := a) (kd := X 10) (nd := nd) i k 0 0 (zput_s _ _ _)) (zgood (fun _ h => h) tw_co_B_init) rfl nl_68 tw_im_B_init tw_in_B rfl pd_B_init (by decide) rfl (Nat.le_of_ble_eq_true rfl) (by decide) d_X_bindLink_56 (fun r σ1 hq => ?_)
      obtain ⟨rfl, rfl⟩ := hq
      rw [zput_zput]
      have hX2 : X 2 ≠ a := hfa _ _ (old2 _ _ h2).1
      refine z_aast C 3 rfl (by rw [zput_n hX2]; exact (old2 _ _ h2).1) (zput_s _ _ _) rfl (pr i k) (by omega) (by omega) (by decide) d_X_bindLink_59 ?_
      refine z_iconst C d_X_bindLink_60 ?_
      exact z_iret C d_X_bindLink_61 (by decide) (by decide) (by
        rw [show sp_bindLink s i k t = sp_bind s i k 2 t from if_neg (by omega), show sp_bind s i k 2 t = (1, sup (sup s 5 (pr i k) 2) 6 (pr i k) t) from if_neg (by omega)]
        refine ⟨rfl, xP.bind hI hx (s' := sup (sup s 5 (pr i k) 2) 6 (pr i k) t) (a := a) (nd := nd) (ka := ka) (la := la) (kd := X 10) (con := 0) (sc := 0) (sz := 1) (kf := iup (fun _ => 0) 0 t) (zf := iup (fun _ => 0) 0 0) hp36 h50 (fun b e q => ⟨by rw [zput_n (hfa _ _ (old2 b e q).1)]; exact (old2 b e q).1, hfa _ _ (old2 b e q).1, (old2 b e q).2⟩) (by rw [zput_s, e12, e13]) (by rw [zput_n hand]; exact k6) (by rw [zput_n hak]; exact k7) (by rw [zput_n hal]; exact k8) (by omega) (fun j => ?_) (fun j => ?_) (fun f q1 q2 => by rw [sup_n q2, sup_n q1]) (fun q hq => ⟨iup_n hq, iup_n hq⟩) (Or.inr (Or.inl ⟨iup_s _ _ _, rfl, rfl, rfl, ?_⟩))⟩
        · by_cases c : j = 0
          · rw [c, iup_s]; omega
          · rw [iup_n c]; show (0 : Int) ≤ 0 ∧ (0 : Int) ≤ 11; omega
        · by_cases c : j = 0
          · rw [c, iup_s]; exact Or.inl rfl
          · rw [iup_n c]; exact Or.inl rfl
        · exact (iup_s _ _ _).trans (iup_s _ _ _).symm)
    · refine z_iconst C d_X_bindLink_16 ?_
      exact z_iret C d_X_bindLink_17 (by decide) (by decide) (by
        rw [show sp_bindLink s i k t = sp_bind s i k 2 t from if_neg (by omega)]
        rw [show sp_bind s i k 2 t = (-1, s) from if_pos (by
          apply Classical.byContradiction
          intro h
          rcases hb with hb | hb
          · have := hb.1; omega
          · apply hb.2
            refine ⟨by omega, ?_⟩
            rcases hx.b5 (p := pr i k) (by unfold pr; omega) with z | ⟨a, z, z5⟩
            · exact z.1
            · omega)]
        exact ⟨rfl, xP.of hx xfr.rf⟩)
set_option maxRecDepth 100000 in
set_option maxHeartbeats 4000000 in
theorem cX_bindClass (i k c : Int) (hI : Inv s) (hx : xG cI cZ cJ cB X O bnd mkr g s (fun q => kpt s q - 1) (fun _ => 0) σ) (ri : -2147483648 ≤ i ∧ i ≤ 2147483647) (rk : -2147483648 ≤ k ∧ k ≤ 2147483647) (rc : -2147483648 ≤ c ∧ c ≤ 2147483647) : zM l D vwCl A (ztys cI cZ cJ cB) (zF A X) y_X_bindClass ws_X_bindClass (zroom 3 4 19) [.ref (X 0), iv i, iv k, iv c] σ (fun r σ' => r = some (iv (sp_bindClass s i k c).1) ∧ xP cI cZ cJ cB X O σ (sp_bindClass s i k c).2 σ') := by
  refine zMet2 (zF_ok A X) (by decide) (Nat.le_of_ble_eq_true rfl) (fun K hKl C => ?_)
  obtain ⟨hO, hX, h1, h2, h3, h4, h5, hB, hBf, hbn, hmk, hvl, hwk, hkp, hk1, hk2, hk3⟩ := id hx
  have hinj := hI.inj
  have hbnn := hI.bn
  have b2 := hB.1.2.1
  have b3 := hB.1.2.2.1
  have b4 := hB.1.2.2.2.1
  have b5 := hB.1.2.2.2.2
  refine z_iload_n C d_X_bindClass_0 rfl ?_
  refine z_if_lt C 18 (by omega) d_X_bindClass_1 (by decide) (fun h1 => ?_) (fun h1 => ?_)
  · refine z_iconst C d_X_bindClass_18 ?_
    exact z_iret C d_X_bindClass_19 (by decide) (by decide) (by rw [show sp_bindClass s i k c = (-1, s) from if_pos (by omega)]; exact ⟨rfl, xP.of hx xfr.rf⟩)
  · refine z_iload_n C d_X_bindClass_4 rfl ?_
    refine z_iconst C d_X_bindClass_5 ?_
    refine z_icmp_gt C 18 (by omega) (by omega) d_X_bindClass_6 (by decide) (fun h6 => ?_) (fun h6 => ?_)
    · refine z_iconst C d_X_bindClass_18 ?_
      exact z_iret C d_X_bindClass_19 (by decide) (by decide) (by rw [show sp_bindClass s i k c = (-1, s) from if_pos (by omega)]; exact ⟨rfl, xP.of hx xfr.rf⟩)
    · refine z_aload_n C d_X_bindClass_9 rfl ?_
      refine z_iload_n C d_X_bindClass_10 rfl ?_
      refine z_iload_n C d_X_bindClass_11 rfl ?_
      refine z_callV C hKl (cX_isUnbound i k hI hx ri rk) (zgood (fun _ h => h) tw_co_X_isUnbound) rfl (hX) rfl tw_ml_X_54 tw_im_X_isUnbound tw_se_X_isUnbound tw_in_X pd_X_isUnbound (by decide) rfl (Nat.le_of_ble_eq_true rfl) (by decide) d_X_bindClass_12 (fun r σ hp => ?_)
      obtain ⟨rfl, b, rfl, hb⟩ := hp
      refine z_if_ne C 20 (by omega) d_X_bindClass_15 (by decide) (fun h15 => ?_) (fun h15 => ?_)
      · have hb1 : (0 ≤ i ∧ i < s 1 0 ∧ 0 ≤ k ∧ k ≤ 11) ∧ bnd (pr i k) = none := by
          rcases hb with hb | hb
          · exact hb.2
          · have := hb.1; omega
        have hpr : ((pr i k : Nat) : Int) = 12 * i + k := by unfold pr; omega
        have hp36 : pr i k < 36 := by omega
        have h50 : s 5 (pr i k) = 0 := by
          rcases hx.b5 hp36 with z | ⟨a, z, -⟩
          · exact z.2
          · rw [hb1.2] at z; cases z
        have e12 : ((pr i k / 12 : Nat) : Int) = i := by omega
        have e13 : ((pr i k % 12 : Nat) : Int) = k := by omega
        refine z_aload_n C d_X_bindClass_20 rfl ?_
        refine z_get C in_X (hX) rfl 5 (by decide) tw_fl_X_36 rfl rfl d_X_bindClass_21 ?_
        refine z_astore C d_X_bindClass_24 (by decide) ?_
        refine z_aload_n C d_X_bindClass_26 rfl ?_
        refine z_get C in_X (hX) rfl 1 (by decide) tw_fl_X_19 rfl rfl d_X_bindClass_27 ?_
        refine z_iload_n C d_X_bindClass_30 rfl ?_
        refine z_iload_n C d_X_bindClass_31 rfl ?_
        refine z_callS C hKl (cX_pairOf (i) (k)) (zgood (fun _ h => h) tw_co_X_pairOf) rfl tw_ml_X_58 tw_st_X_pairOf tw_in_X pd_X_pairOf (by decide) rfl (Nat.le_of_ble_eq_true rfl) (by decide) d_X_bindClass_32 (fun r σ hp => ?_)
        obtain ⟨rfl, rfl⟩ := hp
        refine z_new C in_B t_B tk_B tw_cl_X_17 tw_is_B tw_in_B (ci := 0) rfl dv_B (by decide) (by decide) d_X_bindClass_35 (fun a hfa => ?_)
        refine z_dup C rfl d_X_bindClass_38 ?_
        refine z_gets C (fun s h => h.2.2.2.2) tw_fl_X_74 d_X_bindClass_39 ?_
        refine z_iload_n C d_X_bindClass_42 rfl ?_
        refine z_iload_n C d_X_bindClass_43 rfl ?_
        refine z_iconst C d_X_bindClass_44 ?_
        refine z_iload_n C d_X_bindClass_45 rfl ?_
        refine z_aload C d_X_bindClass_46 rfl ?_
        refine z_callIN (ret2 := none) C hKl (cB_init (a := a) (kd := X 11) (nd := X 6) i k 0 c (zput_s _ _ _)) (zgood (fun _ h => h) tw_co_B_init) rfl nl_68 tw_im_B_init tw_in_B rfl pd_B_init (by decide) rfl (Nat.le_of_ble_eq_true rfl) (by decide) d_X_bindClass_48 (fun r σ1 hq => ?_)
        obtain ⟨rfl, rfl⟩ := hq
        rw [zput_zput]
        have hX2 : X 2 ≠ a := hfa _ _ h2
        have hX0 : X 0 ≠ a := hfa _ _ hX
        refine z_aast C 3 rfl (by rw [zput_n hX2]; exact h2) (zput_s _ _ _) rfl (pr i k) (by omega) (by omega) (by decide) d_X_bindClass_51 ?_
        generalize hσ3 : zput (zput σ a (ob 0 [.ref (X 11), iv i, iv k, iv 0, iv c, .ref (X 6), iv (-1), iv 0])) (X 2) (ra cB 36 (va_up bnd (pr i k) (some a))) = σ3
        have o3 : ∀ b, b ≠ a → b ≠ X 2 → σ3 b = σ b := fun b q1 q2 => by rw [← hσ3, zput_n q2, zput_n q1]
        have a3 : σ3 a = some (ob 0 [.ref (X 11), iv i, iv k, iv 0, iv c, .ref (X 6), iv (-1), iv 0]) := by rw [← hσ3, zput_n (Ne.symm hX2), zput_s]
        have x3 : σ3 (X 2) = some (ra cB 36 (va_up bnd (pr i k) (some a))) := by rw [← hσ3, zput_s]
        have l3 : ∀ b e, σ b = some e → ∃ e', σ3 b = some e' := fun b e q => by
          by_cases c2 : b = X 2
          · exact ⟨_, by rw [c2]; exact x3⟩
          · exact ⟨e, by rw [o3 b (hfa b e q) c2]; exact q⟩
        refine z_aload_n C d_X_bindClass_52 rfl ?_
        refine z_new C in_N t_N tk_N tw_cl_X_33 tw_is_N tw_in_N (ci := 1) rfl dv_N (by decide) (by decide) d_X_bindClass_53 (fun nd hfn => ?_)
        refine z_dup C rfl d_X_bindClass_56 ?_
        refine z_callIN (ret2 := none) C hKl (cN_init (nd := nd) (zput_s _ _ _)) (zgood (fun _ h => h) tw_co_N_init) rfl nl_35 tw_im_N_init tw_in_N rfl pd_N_init (by decide) rfl (Nat.le_of_ble_eq_true rfl) (by decide) d_X_bindClass_57 (fun r σ1 hq => ?_)
        obtain ⟨rfl, ka, la, hkl, hnk, hnl, hfr, g6, g7, g8, gu⟩ := hq
        have nw : ∀ b e, σ3 b = some e → σ1 b = some e ∧ b ≠ nd ∧ b ≠ ka ∧ b ≠ la := fun b e q => by
          have qn := hfn b e q
          have qk := hfr b e (by rw [zput_n qn]; exact q)
          exact ⟨by rw [gu b qn qk.1 qk.2, zput_n qn]; exact q, qn, qk.1, qk.2⟩
        have fresh : ∀ b e, σ b = some e → b ≠ nd ∧ b ≠ ka ∧ b ≠ la := fun b e q => by
          obtain ⟨e', q'⟩ := l3 b e q
          exact (nw b e' q').2
        have hX1 : σ1 (X 0) = some (ob 2 (xfs X s)) := (nw _ _ (by rw [o3 _ hX0 (fun e => by rw [e, h2] at hX; cases hX)]; exact hX)).1
        refine z_put C in_X t_X tk_X nm_X hX1 rfl 5 (by decide) tw_fl_X_36 rfl rfl (tk_X 5 (by decide)) rfl rfl (Nat.le_of_ble_eq_true rfl) d_X_bindClass_60 ?_
        refine z_eq (σ' := zput σ1 (X 0) (ob 2 (xfs (nup (nup (nup X 6 nd) 7 ka) 8 la) (sup s 4 0 0)))) rfl rfl rfl ?_
        generalize hσ4 : zput σ1 (X 0) (ob 2 (xfs (nup (nup (nup X 6 nd) 7 ka) 8 la) (sup s 4 0 0))) = σ4
        have k0 : σ4 (X 0) = some (ob 2 (xfs (nup (nup (nup X 6 nd) 7 ka) 8 la) (sup s 4 0 0))) := by rw [← hσ4, zput_s]
        have k4 : ∀ b e, σ1 b = some e → b ≠ X 0 → σ4 b = some e := fun b e q1 q2 => by rw [← hσ4, zput_n q2]; exact q1
        have k6 : σ4 (X 6) = some (ob 1 [.ref (X 7), .ref (X 8), iv (s 4 0)]) := k4 _ _ (nw _ _ (by rw [o3 _ (hfa _ _ b2) (fun e => by rw [e, h2] at b2; cases b2)]; exact b2)).1 (fun e => by rw [e, hX] at b2; cases b2)
        refine z_aload C d_X_bindClass_63 rfl ?_
        refine z_getN C in_N (k6) rfl 2 (by decide) nl_47 rfl rfl d_X_bindClass_65 ?_
        exact z_iret C d_X_bindClass_68 (by decide) (by decide) (by
          have eS : sp_bindClass s i k c = (s 4 0, bcl s (pr i k) c) := if_neg (by omega)
          rw [eS]
          refine ⟨rfl, nup (nup (nup X 6 nd) 7 ka) 8 la, (fun b => O b ∨ b = a ∨ b = nd ∨ b = ka ∨ b = la), rfl, rfl, rfl, rfl, ?_, ?_⟩
          · have n0 : ∀ b e, σ b = some e → b ≠ X 0 → b ≠ X 2 → σ4 b = some e := fun b e q1 q2 q3 => k4 _ _ (nw _ _ (by rw [o3 b (hfa _ _ q1) q3]; exact q1)).1 q2
            have na : σ4 a = some (ob 0 [.ref (X 11), iv i, iv k, iv 0, iv c, .ref (X 6), iv (-1), iv 0]) := k4 _ _ (nw _ _ a3).1 (Ne.symm hX0)
            have n2 : σ4 (X 2) = some (ra cB 36 (va_up bnd (pr i k) (some a))) := k4 _ _ (nw _ _ x3).1 (fun e => by rw [e, hX] at h2; cases h2)
            have ne0 : nd ≠ X 0 := Ne.symm (fresh _ _ hX).1
            have ne2 : nd ≠ X 2 := Ne.symm (fresh _ _ h2).1
            have ke0 : ka ≠ X 0 := Ne.symm (fresh _ _ hX).2.1
            have ke2 : ka ≠ X 2 := Ne.symm (fresh _ _ h2).2.1
            have le0 : la ≠ X 0 := Ne.symm (fresh _ _ hX).2.2
            have le2 : la ≠ X 2 := Ne.symm (fresh _ _ h2).2.2
            have hx4 := hx.nbuf (O' := fun b => O b ∨ b = a ∨ b = nd ∨ b = ka ∨ b = la) (σ' := zput σ4 (X 2) (ra cB 36 bnd)) (nd := nd) (ka := ka) (la := la) (fun b h => Or.inl h) ⟨Or.inr (Or.inr (Or.inl rfl)), Or.inr (Or.inr (Or.inr (Or.inl rfl))), Or.inr (Or.inr (Or.inr (Or.inr rfl)))⟩ (fun b e q1 q2 q3 => by
                by_cases cc : b = X 2
                · subst cc; rw [zput_s, ← h2]; exact q2
                · rw [zput_n cc]
                  exact n0 b e q2 (fun z => by rw [z, hX] at q2; exact q3 _ (Option.some.inj q2).symm) cc) fresh (by rw [zput_n (fun e => by rw [e, h2] at hX; cases hX)]; exact k0) (by rw [zput_n ne2]; exact k4 _ _ g6 ne0) (by rw [zput_n ke2]; exact k4 _ _ g7 ke0) (by rw [zput_n le2]; exact k4 _ _ g8 le0) hkl
            have hx5 := hx4.bnw (x := some a) (s' := bcl s (pr i k) c) (kp' := fun q => kpt (bcl s (pr i k) c) q - 1) hp36 (fun f hf => ?_) (fun q hq hne => ?_) (fun q => ?_) (Or.inr ⟨a, X 11, 0, c, s 4 0, g 2, g 3, by simp [va_up], BB.off (σ := zput σ4 (X 2) (ra cB 36 bnd)) ⟨Or.inr (Or.inl rfl), X 6, X 7, X 8, ?_, ⟨⟨Or.inl hB.1.1.1, Or.inl hB.1.1.2.1, Or.inl hB.1.1.2.2⟩, ?_, ?_, ?_, b5⟩, ?_⟩ (zput_s _ _ _) xoff_ra, Or.inr (Or.inr ⟨iup_s _ _ _, rfl, (iup_s _ _ _).symm, (iup_s _ _ _).symm, fun j hj => ?_⟩)⟩)
            · have hx6 := hx5
              rw [show nup (nup (nup X 6 nd) 7 ka) 8 la 2 = X 2 from rfl, zput_back n2] at hx6
              exact ⟨_, _, _, hx6⟩
            · by_cases c4 : f = 4
              · subst c4; rfl
              · have e1 : sup s 4 0 0 f = s f := sup_n c4
                rw [e1]
                unfold bcl
                rw [sup_n c4, srow_n (by omega), srow_n (by omega), sup_n (by omega), sup_n (by omega), sup_n (by omega), sup_n (by omega)]
            · refine ⟨iup_n hne, iup_n hne, iup_n hne, iup_n hne, fun j hj => ⟨?_, ?_⟩, rfl⟩
              · show cpn (s 9) (4 * pr i k) (s 4 0).toNat (s 2) (4 * q + j) = s 9 (4 * q + j)
                exact cpn_out (by omega)
              · show cpn (s 10) (4 * pr i k) (s 4 0).toNat (s 3) (4 * q + j) = s 10 (4 * q + j)
                exact cpn_out (by omega)
            · have := hI.kp q
              have := hI.md
              show -1 ≤ kpt s q - 1 ∧ kpt s q - 1 ≤ 200
              omega
            · have e11 : s 11 (pr i k) = 0 := by
                apply Classical.byContradiction
                intro c
                have := (hI.si2 c).1
                omega
              have e12' : s 12 (pr i k) = 0 := by
                apply Classical.byContradiction
                intro c
                have := (hI.re2 c).1
                omega
              rw [zput_n (Ne.symm hX2), na, e12, e13]
              show some (ob 0 [.ref (X 11), iv i, iv k, iv 0, iv c, .ref (X 6), iv (-1), iv 0]) = some (ob 0 [.ref (X 11), iv i, iv k, iv 0, iv c, .ref (X 6), iv (kpt s (pr i k) - 1), iv 0])
              rw [show kpt s (pr i k) = 0 from by unfold kpt; omega]
              rfl
            · rw [zput_n (fun e => by rw [e, h2] at b2; cases b2)]; exact k6
            · rw [zput_n (fun e => by rw [e, h2] at b3; cases b3)]; exact n0 _ _ b3 (fun e => by rw [e, hX] at b3; cases b3) (fun e => by rw [e, h2] at b3; cases b3)
            · rw [zput_n (fun e => by rw [e, h2] at b4; cases b4)]; exact n0 _ _ b4 (fun e => by rw [e, hX] at b4; cases b4) (fun e => by rw [e, h2] at b4; cases b4)
            · exact ⟨(fresh _ _ b2).1, (fresh _ _ b3).2.1, (fresh _ _ b3).2.2, (fresh _ _ b4).2.1, (fresh _ _ b4).2.2⟩
            · show g 2 j = cpn (s 9) (4 * pr i k) (s 4 0).toNat (s 2) (4 * pr i k + j) ∧ g 3 j = cpn (s 10) (4 * pr i k) (s 4 0).toNat (s 3) (4 * pr i k + j)
              rw [cpn_in (by omega) (by omega), cpn_in (by omega) (by omega), show 4 * pr i k + j - 4 * pr i k = j from by omega]
              exact hBf j hj
          · intro b e q1 q2
            have nX0 : b ≠ X 0 := fun z => q2 (by rw [z]; exact hO.1)
            have nX2 : b ≠ X 2 := fun z => q2 (by rw [z]; exact hO.2.2.1)
            refine ⟨k4 _ _ (nw _ _ (by rw [o3 b (hfa _ _ q1) nX2]; exact q1)).1 nX0, fun z => ?_⟩
            rcases z with z | z | z | z | z
            · exact q2 z
            · exact hfa b e q1 z
            · exact (fresh b e q1).1 z
            · exact (fresh b e q1).2.1 z
            · exact (fresh b e q1).2.2 z)
      · refine z_iconst C d_X_bindClass_18 ?_
        exact z_iret C d_X_bindClass_19 (by decide) (by decide) (by
          rw [show sp_bindClass s i k c = (-1, s) from if_pos (by
            apply Classical.byContradiction
            intro h
            rcases hb with hb | hb
            · have := hb.1; omega
            · apply hb.2
              refine ⟨by omega, ?_⟩
              rcases hx.b5 (p := pr i k) (by unfold pr; omega) with z | ⟨a, z, z5⟩
              · exact z.1
              · omega)]
          exact ⟨rfl, xP.of hx xfr.rf⟩)
end XC10
