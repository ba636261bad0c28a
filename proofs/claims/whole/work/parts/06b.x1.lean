section XC1
variable {l : Launch} {D : va_G} {A : Nat → Prop} {cI cZ cJ cB : ClassId} {X : Nat → Nat} {O : Nat → Prop} {bnd mkr : Nat → Option Nat} {g : Nat → Nat → Int} {σ : zh} {s : St} {kp wk : Nat → Int}
set_option maxRecDepth 100000 in
set_option maxHeartbeats 4000000 in
theorem cX_isInjector (i : Int) (hI : Inv s) (hx : xG cI cZ cJ cB X O bnd mkr g s kp wk σ) (ri : -2147483648 ≤ i ∧ i ≤ 2147483647) : zM l D vwCl A (ztys cI cZ cJ cB) (zF A X) y_X_isInjector ws_X_isInjector (zroom 0 0 0) [.ref (X 0), iv i] σ (fun r σ' => σ' = σ ∧ ∃ b : Int, r = some (iv b) ∧ ((b = 1 ∧ (0 ≤ i ∧ i < s 1 0)) ∨ (b = 0 ∧ (i < 0 ∨ s 1 0 ≤ i)))) := by
  refine zMet2 (zF_ok A X) (by decide) (Nat.le_of_ble_eq_true rfl) (fun K hKl C => ?_)
  obtain ⟨hO, hX, h1, h2, h3, h4, h5, hB, hBf, hbn, hmk, hvl, hwk, hkp, hk1, hk2, hk3⟩ := id hx
  have hinj := hI.inj
  refine z_iload_n C d_X_isInjector_0 rfl ?_
  refine z_if_lt C 16 (by omega) d_X_isInjector_1 (by decide) (fun h1 => ?_) (fun h1 => ?_)
  · refine z_iconst C d_X_isInjector_16 ?_
    exact z_zret C d_X_isInjector_17 (by decide) (by decide) (by omega) (⟨rfl, _, rfl, by omega⟩)
  · refine z_iload_n C d_X_isInjector_4 rfl ?_
    refine z_aload_n C d_X_isInjector_5 rfl ?_
    refine z_get C in_X (hX) rfl 6 (by decide) tw_fl_X_13 rfl rfl d_X_isInjector_6 ?_
    refine z_icmp_ge C 16 (by omega) (by omega) d_X_isInjector_9 (by decide) (fun h9 => ?_) (fun h9 => ?_)
    · refine z_iconst C d_X_isInjector_16 ?_
      exact z_zret C d_X_isInjector_17 (by decide) (by decide) (by omega) (⟨rfl, _, rfl, by omega⟩)
    · refine z_iconst C d_X_isInjector_12 ?_
      refine z_goto C 17 d_X_isInjector_13 (by decide) ?_
      exact z_zret C d_X_isInjector_17 (by decide) (by decide) (by omega) (⟨rfl, _, rfl, by omega⟩)
set_option maxRecDepth 100000 in
set_option maxHeartbeats 4000000 in
theorem cX_isKey (k : Int) (rk : -2147483648 ≤ k ∧ k ≤ 2147483647) : zM l D vwCl A (ztys cI cZ cJ cB) (zF A X) y_X_isKey ws_X_isKey (zroom 0 0 0) [iv k] σ (fun r σ' => σ' = σ ∧ ∃ b : Int, r = some (iv b) ∧ ((b = 1 ∧ (0 ≤ k ∧ k ≤ 11)) ∨ (b = 0 ∧ (k < 0 ∨ 11 < k)))) := by
  refine zMet2 (zF_ok A X) (by decide) (Nat.le_of_ble_eq_true rfl) (fun K hKl C => ?_)
  refine z_iload_n C d_X_isKey_0 rfl ?_
  refine z_if_lt C 14 (by omega) d_X_isKey_1 (by decide) (fun h1 => ?_) (fun h1 => ?_)
  · refine z_iconst C d_X_isKey_14 ?_
    exact z_zret C d_X_isKey_15 (by decide) (by decide) (by omega) (⟨rfl, _, rfl, by omega⟩)
  · refine z_iload_n C d_X_isKey_4 rfl ?_
    refine z_bipush C d_X_isKey_5 (by decide) ?_
    refine z_icmp_ge C 14 (by omega) (by omega) d_X_isKey_7 (by decide) (fun h7 => ?_) (fun h7 => ?_)
    · refine z_iconst C d_X_isKey_14 ?_
      exact z_zret C d_X_isKey_15 (by decide) (by decide) (by omega) (⟨rfl, _, rfl, by omega⟩)
    · refine z_iconst C d_X_isKey_10 ?_
      refine z_goto C 15 d_X_isKey_11 (by decide) ?_
      exact z_zret C d_X_isKey_15 (by decide) (by decide) (by omega) (⟨rfl, _, rfl, by omega⟩)
set_option maxRecDepth 100000 in
set_option maxHeartbeats 4000000 in
theorem cX_pairOf (i k : Int)  : zM l D vwCl A (ztys cI cZ cJ cB) (zF A X) y_X_pairOf ws_X_pairOf (zroom 0 0 0) [iv i, iv k] σ (fun r σ' => σ' = σ ∧ r = some (iv (i * 12 + k))) := by
  refine zMet2 (zF_ok A X) (by decide) (Nat.le_of_ble_eq_true rfl) (fun K hKl C => ?_)
  refine z_iload_n C d_X_pairOf_0 rfl ?_
  refine z_bipush C d_X_pairOf_1 (by decide) ?_
  refine z_imul C d_X_pairOf_3 ?_
  refine z_iload_n C d_X_pairOf_4 rfl ?_
  refine z_iadd C d_X_pairOf_5 ?_
  exact z_iret C d_X_pairOf_6 (by decide) (by decide) (⟨rfl, rfl⟩)
set_option maxRecDepth 100000 in
set_option maxHeartbeats 4000000 in
theorem cX_isPair (i k : Int) (hI : Inv s) (hx : xG cI cZ cJ cB X O bnd mkr g s kp wk σ) (ri : -2147483648 ≤ i ∧ i ≤ 2147483647) (rk : -2147483648 ≤ k ∧ k ≤ 2147483647) : zM l D vwCl A (ztys cI cZ cJ cB) (zF A X) y_X_isPair ws_X_isPair (zroom 1 0 0) [.ref (X 0), iv i, iv k] σ (fun r σ' => σ' = σ ∧ ∃ b : Int, r = some (iv b) ∧ ((b = 1 ∧ (0 ≤ i ∧ i < s 1 0 ∧ 0 ≤ k ∧ k ≤ 11)) ∨ (b = 0 ∧ (i < 0 ∨ s 1 0 ≤ i ∨ k < 0 ∨ 11 < k)))) := by
  refine zMet2 (zF_ok A X) (by decide) (Nat.le_of_ble_eq_true rfl) (fun K hKl C => ?_)
  obtain ⟨hO, hX, h1, h2, h3, h4, h5, hB, hBf, hbn, hmk, hvl, hwk, hkp, hk1, hk2, hk3⟩ := id hx
  refine z_aload_n C d_X_isPair_0 rfl ?_
  refine z_iload_n C d_X_isPair_1 rfl ?_
  refine z_callV C hKl (cX_isInjector i hI hx ri) (zgood (fun _ h => h) tw_co_X_isInjector) rfl (hX) rfl tw_ml_X_40 tw_im_X_isInjector tw_se_X_isInjector tw_in_X pd_X_isInjector (by decide) rfl (Nat.le_of_ble_eq_true rfl) (by decide) d_X_isPair_2 (fun r σ hp => ?_)
  obtain ⟨rfl, b, rfl, hb⟩ := hp
  refine z_if_eq C 19 (by omega) d_X_isPair_5 (by decide) (fun h5 => ?_) (fun h5 => ?_)
  · refine z_iconst C d_X_isPair_19 ?_
    exact z_zret C d_X_isPair_20 (by decide) (by decide) (by omega) (⟨rfl, _, rfl, by omega⟩)
  · refine z_iload_n C d_X_isPair_8 rfl ?_
    refine z_callS C hKl (cX_isKey k rk) (zgood (fun _ h => h) tw_co_X_isKey) rfl tw_ml_X_44 tw_st_X_isKey tw_in_X pd_X_isKey (by decide) rfl (Nat.le_of_ble_eq_true rfl) (by decide) d_X_isPair_9 (fun r σ hp => ?_)
    obtain ⟨rfl, b2, rfl, hb2⟩ := hp
    refine z_if_eq C 19 (by omega) d_X_isPair_12 (by decide) (fun h12 => ?_) (fun h12 => ?_)
    · refine z_iconst C d_X_isPair_19 ?_
      exact z_zret C d_X_isPair_20 (by decide) (by decide) (by omega) (⟨rfl, _, rfl, by omega⟩)
    · refine z_iconst C d_X_isPair_15 ?_
      refine z_goto C 20 d_X_isPair_16 (by decide) ?_
      exact z_zret C d_X_isPair_20 (by decide) (by decide) (by omega) (⟨rfl, _, rfl, by omega⟩)
set_option maxRecDepth 100000 in
set_option maxHeartbeats 4000000 in
theorem cX_isUnbound (i k : Int) (hI : Inv s) (hx : xG cI cZ cJ cB X O bnd mkr g s kp wk σ) (ri : -2147483648 ≤ i ∧ i ≤ 2147483647) (rk : -2147483648 ≤ k ∧ k ≤ 2147483647) : zM l D vwCl A (ztys cI cZ cJ cB) (zF A X) y_X_isUnbound ws_X_isUnbound (zroom 2 0 0) [.ref (X 0), iv i, iv k] σ (fun r σ' => σ' = σ ∧ ∃ b : Int, r = some (iv b) ∧ ((b = 1 ∧ ((0 ≤ i ∧ i < s 1 0 ∧ 0 ≤ k ∧ k ≤ 11) ∧ bnd (pr i k) = none)) ∨ (b = 0 ∧ ¬ ((0 ≤ i ∧ i < s 1 0 ∧ 0 ≤ k ∧ k ≤ 11) ∧ bnd (pr i k) = none)))) := by
  refine zMet2 (zF_ok A X) (by decide) (Nat.le_of_ble_eq_true rfl) (fun K hKl C => ?_)
  obtain ⟨hO, hX, h1, h2, h3, h4, h5, hB, hBf, hbn, hmk, hvl, hwk, hkp, hk1, hk2, hk3⟩ := id hx
  have hinj := hI.inj
  refine z_aload_n C d_X_isUnbound_0 rfl ?_
  refine z_iload_n C d_X_isUnbound_1 rfl ?_
  refine z_iload_n C d_X_isUnbound_2 rfl ?_
  refine z_callV C hKl (cX_isPair i k hI hx ri rk) (zgood (fun _ h => h) tw_co_X_isPair) rfl (hX) rfl tw_ml_X_77 tw_im_X_isPair tw_se_X_isPair tw_in_X pd_X_isPair (by decide) rfl (Nat.le_of_ble_eq_true rfl) (by decide) d_X_isUnbound_3 (fun r σ hp => ?_)
  obtain ⟨rfl, b, rfl, hb⟩ := hp
  refine z_if_eq C 26 (by omega) d_X_isUnbound_6 (by decide) (fun h6 => ?_) (fun h6 => ?_)
  · refine z_iconst C d_X_isUnbound_26 ?_
    exact z_zret C d_X_isUnbound_27 (by decide) (by decide) (by omega) (⟨rfl, 0, rfl, Or.inr ⟨rfl, fun z => by have := z.1; omega⟩⟩)
  · have hpr : ((pr i k : Nat) : Int) = 12 * i + k := by unfold pr; omega
    refine z_aload_n C d_X_isUnbound_9 rfl ?_
    refine z_get C in_X (hX) rfl 1 (by decide) tw_fl_X_19 rfl rfl d_X_isUnbound_10 ?_
    refine z_iload_n C d_X_isUnbound_13 rfl ?_
    refine z_iload_n C d_X_isUnbound_14 rfl ?_
    refine z_callS C hKl (cX_pairOf (i) (k)) (zgood (fun _ h => h) tw_co_X_pairOf) rfl tw_ml_X_58 tw_st_X_pairOf tw_in_X pd_X_pairOf (by decide) rfl (Nat.le_of_ble_eq_true rfl) (by decide) d_X_isUnbound_15 (fun r σ hp => ?_)
    obtain ⟨rfl, rfl⟩ := hp
    refine z_aald C 3 rfl h2 (pr i k) (by omega) (by omega) (by decide) d_X_isUnbound_18 ?_
    rcases hq : bnd (pr i k) with _ | a
    · refine z_ifnonnullN C d_X_isUnbound_19 ?_
      refine z_iconst C d_X_isUnbound_22 ?_
      refine z_goto C 27 d_X_isUnbound_23 (by decide) ?_
      exact z_zret C d_X_isUnbound_27 (by decide) (by decide) (by omega) (⟨rfl, 1, rfl, Or.inl ⟨rfl, by omega, rfl⟩⟩)
    · rw [show va_rf (some a) = Value.ref a from rfl]
      refine z_ifnonnull C 26 d_X_isUnbound_19 (by decide) ?_
      refine z_iconst C d_X_isUnbound_26 ?_
      exact z_zret C d_X_isUnbound_27 (by decide) (by decide) (by omega) (⟨rfl, 0, rfl, Or.inr ⟨rfl, fun z => by cases z.2⟩⟩)
set_option maxRecDepth 100000 in
set_option maxHeartbeats 4000000 in
theorem cX_makerOf (i : Int) (hI : Inv s) (hx : xG cI cZ cJ cB X O bnd mkr g s kp wk σ) (ri : -2147483648 ≤ i ∧ i ≤ 2147483647) : zM l D vwCl A (ztys cI cZ cJ cB) (zF A X) y_X_makerOf ws_X_makerOf (zroom 0 0 0) [.ref (X 0), iv i] σ (fun r σ' => σ' = σ ∧ r = some (va_rf (if i < 0 ∨ s 23 0 ≤ i then none else mkr i.toNat))) := by
  refine zMet2 (zF_ok A X) (by decide) (Nat.le_of_ble_eq_true rfl) (fun K hKl C => ?_)
  obtain ⟨hO, hX, h1, h2, h3, h4, h5, hB, hBf, hbn, hmk, hvl, hwk, hkp, hk1, hk2, hk3⟩ := id hx
  have hmd := hI.md
  refine z_iload_n C d_X_makerOf_0 rfl ?_
  refine z_if_lt C 21 (by omega) d_X_makerOf_1 (by decide) (fun h1 => ?_) (fun h1 => ?_)
  · refine z_null C d_X_makerOf_21 ?_
    exact z_aret (r := none) C d_X_makerOf_22 (by decide) (by decide) ⟨rfl, by rw [if_pos (by omega)]⟩
  · refine z_iload_n C d_X_makerOf_4 rfl ?_
    refine z_aload_n C d_X_makerOf_5 rfl ?_
    refine z_get C in_X (hX) rfl 7 (by decide) tw_fl_X_143 rfl rfl d_X_makerOf_6 ?_
    refine z_icmp_ge C 21 (by omega) (by omega) d_X_makerOf_9 (by decide) (fun h9 => ?_) (fun h9 => ?_)
    · refine z_null C d_X_makerOf_21 ?_
      exact z_aret (r := none) C d_X_makerOf_22 (by decide) (by decide) ⟨rfl, by rw [if_pos (by omega)]⟩
    · refine z_aload_n C d_X_makerOf_12 rfl ?_
      refine z_get C in_X (hX) rfl 2 (by decide) tw_fl_X_23 rfl rfl d_X_makerOf_13 ?_
      refine z_iload_n C d_X_makerOf_16 rfl ?_
      refine z_aald C 3 rfl h3 i.toNat (by omega) (by omega) (by decide) d_X_makerOf_17 ?_
      refine z_goto C 22 d_X_makerOf_18 (by decide) ?_
      exact z_aret C d_X_makerOf_22 (by decide) (by decide) (⟨rfl, by rw [if_neg (by omega)]⟩)
set_option maxRecDepth 100000 in
set_option maxHeartbeats 4000000 in
theorem cX_hasNeed {a kd nd ka la : Nat} {inj key con sc kept iw sz : Int} (n : Int) (ha : σ a = some (ob 0 [.ref kd, iv inj, iv key, iv con, iv sc, .ref nd, iv kept, iv iw])) (hn : σ nd = some (ob 1 [.ref ka, .ref la, iv sz])) (hsz : 0 ≤ sz ∧ sz ≤ 4) (rn : -2147483648 ≤ n ∧ n ≤ 2147483647) : zM l D vwCl A (ztys cI cZ cJ cB) (zF A X) y_X_hasNeed ws_X_hasNeed (zroom 0 0 0) [.ref a, iv n] σ (fun r σ' => σ' = σ ∧ ∃ b : Int, r = some (iv b) ∧ ((b = 1 ∧ (0 ≤ n ∧ n < sz)) ∨ (b = 0 ∧ (n < 0 ∨ sz ≤ n)))) := by
  refine zMet2 (zF_ok A X) (by decide) (Nat.le_of_ble_eq_true rfl) (fun K hKl C => ?_)
  refine z_iload_n C d_X_hasNeed_0 rfl ?_
  refine z_if_lt C 19 (by omega) d_X_hasNeed_1 (by decide) (fun h1 => ?_) (fun h1 => ?_)
  · refine z_iconst C d_X_hasNeed_19 ?_
    exact z_zret C d_X_hasNeed_20 (by decide) (by decide) (by omega) (⟨rfl, _, rfl, by omega⟩)
  · refine z_iload_n C d_X_hasNeed_4 rfl ?_
    refine z_aload_n C d_X_hasNeed_5 rfl ?_
    refine z_getN C in_B (ha) rfl 5 (by decide) nl_108 rfl rfl d_X_hasNeed_6 ?_
    refine z_getN C in_N (hn) rfl 2 (by decide) nl_47 rfl rfl d_X_hasNeed_9 ?_
    refine z_icmp_ge C 19 (by omega) (by omega) d_X_hasNeed_12 (by decide) (fun h12 => ?_) (fun h12 => ?_)
    · refine z_iconst C d_X_hasNeed_19 ?_
      exact z_zret C d_X_hasNeed_20 (by decide) (by decide) (by omega) (⟨rfl, _, rfl, by omega⟩)
    · refine z_iconst C d_X_hasNeed_15 ?_
      refine z_goto C 20 d_X_hasNeed_16 (by decide) ?_
      exact z_zret C d_X_hasNeed_20 (by decide) (by decide) (by omega) (⟨rfl, _, rfl, by omega⟩)
set_option maxRecDepth 100000 in
set_option maxHeartbeats 4000000 in
theorem cX_seenFrom (i k : Nat) (hI : Inv s) (hx : xG cI cZ cJ cB X O bnd mkr g s kp wk σ) (hi : i < 3) (hk : k < 12) : zM l D vwCl A (ztys cI cZ cJ cB) (zF A X) y_X_seenFrom ws_X_seenFrom (zroom 1 0 0) [.ref (X 0), iv (i : Int), iv (k : Int)] σ (fun r σ' => σ' = σ ∧ r = some (va_rf (if sn s i k < 0 then none else bnd (sn s i k).toNat))) := by
  refine zMet2 (zF_ok A X) (by decide) (Nat.le_of_ble_eq_true rfl) (fun K hKl C => ?_)
  obtain ⟨hO, hX, h1, h2, h3, h4, h5, hB, hBf, hbn, hmk, hvl, hwk, hkp, hk1, hk2, hk3⟩ := id hx
  have loop : ∀ (n st : Nat) (x : Int), st + n = 3 → -1 ≤ x → x < 3 → x < n → ∀ a5 : Option Value, zJ K D vwCl A 6 (zQ K D vwCl A (fun r σ' => σ' = σ ∧ r = some (va_rf (if snf s k n x < 0 then none else bnd (snf s k n x).toNat))) 0 0) 0 0 σ 5 [some (.ref (X 0)), some (iv (i : Int)), some (iv (k : Int)), some (iv x), some (iv (st : Int)), a5] [] := by
    intro n
    induction n with
    | zero =>
      intro st x h0 hx1 hx2 hx3 a5
      refine z_iload C d_X_seenFrom_5 rfl ?_
      refine z_iconst C d_X_seenFrom_7 ?_
      refine z_icmp_ge C 49 (by omega) (by omega) d_X_seenFrom_8 (by decide) (fun h8 => ?_) (fun h8 => absurd h8 (by omega))
      refine z_null C d_X_seenFrom_49 ?_
      exact z_aret (r := none) C d_X_seenFrom_50 (by decide) (by decide) ⟨rfl, rfl⟩
    | succ n ih =>
      intro st x h0 hx1 hx2 hx3 a5
      have es : snf s k (n + 1) x = if x < 0 then -1 else if s 5 (12 * x.toNat + k) ≠ 0 then 12 * x + k else snf s k n (s 0 x.toNat) := rfl
      refine z_iload C d_X_seenFrom_5 rfl ?_
      refine z_iconst C d_X_seenFrom_7 ?_
      refine z_icmp_ge C 49 (by omega) (by omega) d_X_seenFrom_8 (by decide) (fun h8 => absurd h8 (by omega)) (fun h8 => ?_)
      refine z_iload_n C d_X_seenFrom_11 rfl ?_
      refine z_iconst C d_X_seenFrom_12 ?_
      refine z_icmp_eq C 49 (by omega) (by omega) d_X_seenFrom_13 (by decide) (fun h13 => ?_) (fun h13 => ?_)
      · refine z_null C d_X_seenFrom_49 ?_
        exact z_aret (r := none) C d_X_seenFrom_50 (by decide) (by decide) ⟨rfl, by rw [es, if_pos (by omega)]⟩
      · refine z_aload_n C d_X_seenFrom_16 rfl ?_
        refine z_get C in_X (hX) rfl 1 (by decide) tw_fl_X_19 rfl rfl d_X_seenFrom_17 ?_
        refine z_iload_n C d_X_seenFrom_20 rfl ?_
        refine z_iload_n C d_X_seenFrom_21 rfl ?_
        refine z_callS C hKl (cX_pairOf (x) ((k : Int))) (zgood (fun _ h => h) tw_co_X_pairOf) rfl tw_ml_X_58 tw_st_X_pairOf tw_in_X pd_X_pairOf (by decide) rfl (Nat.le_of_ble_eq_true rfl) (by decide) d_X_seenFrom_22 (fun r σ hp => ?_)
        obtain ⟨rfl, rfl⟩ := hp
        refine z_aald C 3 rfl h2 (12 * x.toNat + k) (by omega) (by omega) (by decide) d_X_seenFrom_25 ?_
        rcases hq : bnd (12 * x.toNat + k) with _ | a
        · rw [show va_rf none = Value.null from rfl]
          have h0 : s 5 (12 * x.toNat + k) = 0 := by
            rcases hbn (12 * x.toNat + k) (by omega) with z | ⟨a, kd, con, sc, sz, kf, zf, z, -⟩
            · exact z.2
            · rw [hq] at z; cases z
          refine z_astoreN C d_X_seenFrom_26 (by decide) ?_
          refine z_aloadN C d_X_seenFrom_28 rfl ?_
          refine z_ifnullN C 36 d_X_seenFrom_30 (by decide) ?_
          refine z_aload_n C d_X_seenFrom_36 rfl ?_
          refine z_get C in_X (hX) rfl 0 (by decide) tw_fl_X_9 rfl rfl d_X_seenFrom_37 ?_
          refine z_iload_n C d_X_seenFrom_40 rfl ?_
          refine z_iald C 0 rfl h1 x.toNat (by omega) (by omega) (by decide) d_X_seenFrom_41 ?_
          refine z_istore_n C d_X_seenFrom_42 (by decide) ?_
          refine z_iinc C d_X_seenFrom_43 rfl (by decide) ?_
          refine z_goto C 5 d_X_seenFrom_46 (by decide) ?_
          have hp := hI.par.at (i := x.toNat) (by omega)
          have e2 : snf s k (n + 1) x = snf s k n (s 0 x.toNat) := by rw [es, if_neg (by omega), if_neg (by omega)]
          rw [e2]
          have j := ih (st + 1) (s 0 x.toNat) (by omega) (by omega) (by omega) (by omega) (some .null)
          rw [show ((st + 1 : Nat) : Int) = (st : Int) + 1 from by omega] at j
          exact j
        · rw [show va_rf (some a) = Value.ref a from rfl]
          have h0 : s 5 (12 * x.toNat + k) ≠ 0 := by
            rcases hbn (12 * x.toNat + k) (by omega) with z | ⟨a, kd, con, sc, sz, kf, zf, -, -, z⟩
            · rw [hq] at z; cases z.1
            · rcases z with z | z | z <;> (have := z.1; omega)
          refine z_astore C d_X_seenFrom_26 (by decide) ?_
          refine z_aload C d_X_seenFrom_28 rfl ?_
          refine z_ifnull C d_X_seenFrom_30 ?_
          refine z_aload C d_X_seenFrom_33 rfl ?_
          exact z_aret (r := some a) C d_X_seenFrom_35 (by decide) (by decide) ⟨rfl, by rw [es, if_neg (by omega), if_pos h0, if_neg (by omega), show (12 * x + (k : Int)).toNat = 12 * x.toNat + k from by omega, hq]⟩
  refine z_iload_n C d_X_seenFrom_0 rfl ?_
  refine z_istore_n C d_X_seenFrom_1 (by decide) ?_
  refine z_iconst C d_X_seenFrom_2 ?_
  refine z_istore C d_X_seenFrom_3 (by decide) ?_
  exact loop 3 0 (i : Int) (by omega) (by omega) (by omega) (by omega) none
set_option maxRecDepth 100000 in
set_option maxHeartbeats 4000000 in
theorem cX_isError (v : Int) (rv : -9223372036854775808 ≤ v ∧ v ≤ 9223372036854775807) : zM l D vwCl A (ztys cI cZ cJ cB) (zF A X) y_X_isError ws_X_isError (zroom 0 0 0) [jv v] σ (fun r σ' => σ' = σ ∧ ∃ b : Int, r = some (iv b) ∧ ((b = 1 ∧ v < 0) ∨ (b = 0 ∧ 0 ≤ v))) := by
  refine zMet2 (zF_ok A X) (by decide) (Nat.le_of_ble_eq_true rfl) (fun K hKl C => ?_)
  refine z_lload_n C d_X_isError_0 rfl ?_
  refine z_lconst C 0 d_X_isError_1 rfl ?_
  refine z_lcmp C (by omega) (by omega) d_X_isError_2 (fun v2 hv2 => ?_)
  refine z_if_ge C 10 (by omega) d_X_isError_3 (by decide) (fun h3 => ?_) (fun h3 => ?_)
  · refine z_iconst C d_X_isError_10 ?_
    exact z_zret C d_X_isError_11 (by decide) (by decide) (by omega) (⟨rfl, _, rfl, by omega⟩)
  · refine z_iconst C d_X_isError_6 ?_
    refine z_goto C 11 d_X_isError_7 (by decide) ?_
    exact z_zret C d_X_isError_11 (by decide) (by decide) (by omega) (⟨rfl, _, rfl, by omega⟩)
set_option maxRecDepth 100000 in
set_option maxHeartbeats 4000000 in
theorem cX_handleOf (i k : Int) (hi : 0 ≤ i ∧ i ≤ 2) (hk : 0 ≤ k ∧ k ≤ 11) : zM l D vwCl A (ztys cI cZ cJ cB) (zF A X) y_X_handleOf ws_X_handleOf (zroom 0 0 0) [iv i, iv k] σ (fun r σ' => σ' = σ ∧ r = some (jv (20000000000 + 16 * i + k))) := by
  refine zMet2 (zF_ok A X) (by decide) (Nat.le_of_ble_eq_true rfl) (fun K hKl C => ?_)
  refine z_ldc2 C 20000000000 tw_kl_X_198 d_X_handleOf_0 ?_
  refine z_bipush C d_X_handleOf_3 (by decide) ?_
  refine z_iload_n C d_X_handleOf_5 rfl ?_
  refine z_imul C d_X_handleOf_6 ?_
  refine z_i2l C (by omega) d_X_handleOf_7 ?_
  refine z_ladd C d_X_handleOf_8 ?_
  refine z_iload_n C d_X_handleOf_9 rfl ?_
  refine z_i2l C (by omega) d_X_handleOf_10 ?_
  refine z_ladd C d_X_handleOf_11 ?_
  exact z_lret C d_X_handleOf_12 (by decide) (by decide) (⟨rfl, rfl⟩)
end XC1
