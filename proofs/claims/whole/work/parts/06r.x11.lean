section XC12
variable {l : Launch} {D : va_G} {A : Nat → Prop} {cI cZ cJ cB : ClassId} {X : Nat → Nat} {O : Nat → Prop} {bnd mkr : Nat → Option Nat} {g : Nat → Nat → Int} {σ : zh} {s : St} {kp wk : Nat → Int}
set_option maxRecDepth 100000 in
set_option maxHeartbeats 4000000 in
theorem cI_ntz (w t : Nat) (hw : w < 2 ^ 32) (ht : t < 32) (hl : lb w t) : zM l D vwCl A (ztys cI cZ cJ cB) (zF A X) y_I_numberOfTrailingZeros ws_I_numberOfTrailingZeros (zroom 0 0 0) [iv (w : Int)] σ (fun r σ' => σ' = σ ∧ r = some (iv (t : Int))) := by
  refine zMet2 (zF_ok A X) (by decide) (Nat.le_of_ble_eq_true rfl) (fun K hKl C => ?_)
  have j74 : ∀ x n : Nat, x < 2 ^ 31 → n < 200 → zJ K D vwCl A 2 (zQ K D vwCl A (fun r σ' => σ' = σ ∧ r = some (iv ((ntz4 x n : Nat) : Int))) 0 0) 0 0 σ 74 [some (iv ((x : Nat) : Int)), some (iv ((n : Nat) : Int))] [] := by
    intro x n hx hn
    refine z_iload_n C d_I_numberOfTrailingZeros_74 rfl ?_
    refine z_iload_n C d_I_numberOfTrailingZeros_75 rfl ?_
    refine z_iconst C d_I_numberOfTrailingZeros_76 ?_
    refine z_biushr C 1 rfl (by omega) (by omega) d_I_numberOfTrailingZeros_77 ?_
    refine z_iadd C d_I_numberOfTrailingZeros_78 ?_
    exact z_iret C d_I_numberOfTrailingZeros_79 (by decide) (by decide) (⟨rfl, by rw [show ((n : Nat) : Int) + ((x / 2 ^ 1 : Nat) : Int) = ((ntz4 x n : Nat) : Int) from by unfold ntz4; omega]⟩)
  have j62 : ∀ x n : Nat, x < 2 ^ 31 → n < 100 → zJ K D vwCl A 2 (zQ K D vwCl A (fun r σ' => σ' = σ ∧ r = some (iv ((ntz3 x n : Nat) : Int))) 0 0) 0 0 σ 62 [some (iv ((x : Nat) : Int)), some (iv ((n : Nat) : Int))] [] := by
    intro x n hx hn
    refine z_iload_n C d_I_numberOfTrailingZeros_62 rfl ?_
    refine z_iconst C d_I_numberOfTrailingZeros_63 ?_
    refine z_icmp_le C 74 (by omega) (by omega) d_I_numberOfTrailingZeros_64 (by decide) (fun h64 => ?_) (fun h64 => ?_)
    · rw [show ntz3 x n = ntz4 x n from if_neg (by omega)]
      exact j74 x n (by omega) (by omega)
    · refine z_iinc C d_I_numberOfTrailingZeros_67 rfl (by decide) ?_
      refine z_iload_n C d_I_numberOfTrailingZeros_70 rfl ?_
      refine z_iconst C d_I_numberOfTrailingZeros_71 ?_
      refine z_biushr C 2 rfl (by omega) (by omega) d_I_numberOfTrailingZeros_72 ?_
      refine z_istore_n C d_I_numberOfTrailingZeros_73 (by decide) ?_
      rw [show ntz3 x n = ntz4 (x / 2 ^ 2) (n + 2) from if_pos (by omega)]
      have hle : x / 2 ^ 2 ≤ x := Nat.div_le_self _ _
      exact j74 (x / 2 ^ 2) (n + 2) (by omega) (by omega)
  have j49 : ∀ x n : Nat, x < 2 ^ 31 → n < 60 → zJ K D vwCl A 2 (zQ K D vwCl A (fun r σ' => σ' = σ ∧ r = some (iv ((ntz2 x n : Nat) : Int))) 0 0) 0 0 σ 49 [some (iv ((x : Nat) : Int)), some (iv ((n : Nat) : Int))] [] := by
    intro x n hx hn
    refine z_iload_n C d_I_numberOfTrailingZeros_49 rfl ?_
    refine z_bipush C d_I_numberOfTrailingZeros_50 (by decide) ?_
    refine z_icmp_le C 62 (by omega) (by omega) d_I_numberOfTrailingZeros_52 (by decide) (fun h52 => ?_) (fun h52 => ?_)
    · rw [show ntz2 x n = ntz3 x n from if_neg (by omega)]
      exact j62 x n (by omega) (by omega)
    · refine z_iinc C d_I_numberOfTrailingZeros_55 rfl (by decide) ?_
      refine z_iload_n C d_I_numberOfTrailingZeros_58 rfl ?_
      refine z_iconst C d_I_numberOfTrailingZeros_59 ?_
      refine z_biushr C 4 rfl (by omega) (by omega) d_I_numberOfTrailingZeros_60 ?_
      refine z_istore_n C d_I_numberOfTrailingZeros_61 (by decide) ?_
      rw [show ntz2 x n = ntz3 (x / 2 ^ 4) (n + 4) from if_pos (by omega)]
      have hle : x / 2 ^ 4 ≤ x := Nat.div_le_self _ _
      exact j62 (x / 2 ^ 4) (n + 4) (by omega) (by omega)
  have j34 : ∀ x n : Nat, x < 2 ^ 31 → n < 30 → zJ K D vwCl A 2 (zQ K D vwCl A (fun r σ' => σ' = σ ∧ r = some (iv ((ntz1 x n : Nat) : Int))) 0 0) 0 0 σ 34 [some (iv ((x : Nat) : Int)), some (iv ((n : Nat) : Int))] [] := by
    intro x n hx hn
    refine z_iload_n C d_I_numberOfTrailingZeros_34 rfl ?_
    refine z_sipush C d_I_numberOfTrailingZeros_35 (by decide) ?_
    refine z_icmp_le C 49 (by omega) (by omega) d_I_numberOfTrailingZeros_38 (by decide) (fun h38 => ?_) (fun h38 => ?_)
    · rw [show ntz1 x n = ntz2 x n from if_neg (by omega)]
      exact j49 x n (by omega) (by omega)
    · refine z_iinc C d_I_numberOfTrailingZeros_41 rfl (by decide) ?_
      refine z_iload_n C d_I_numberOfTrailingZeros_44 rfl ?_
      refine z_bipush C d_I_numberOfTrailingZeros_45 (by decide) ?_
      refine z_biushr C 8 rfl (by omega) (by omega) d_I_numberOfTrailingZeros_47 ?_
      refine z_istore_n C d_I_numberOfTrailingZeros_48 (by decide) ?_
      rw [show ntz1 x n = ntz2 (x / 2 ^ 8) (n + 8) from if_pos (by omega)]
      have hle : x / 2 ^ 8 ≤ x := Nat.div_le_self _ _
      exact j49 (x / 2 ^ 8) (n + 8) (by omega) (by omega)
  have j19 : ∀ x n : Nat, x < 2 ^ 31 → n < 10 → zJ K D vwCl A 2 (zQ K D vwCl A (fun r σ' => σ' = σ ∧ r = some (iv ((ntz0 x n : Nat) : Int))) 0 0) 0 0 σ 19 [some (iv ((x : Nat) : Int)), some (iv ((n : Nat) : Int))] [] := by
    intro x n hx hn
    refine z_iload_n C d_I_numberOfTrailingZeros_19 rfl ?_
    refine z_ldcw C 65536 tw_ki_I_264 d_I_numberOfTrailingZeros_20 ?_
    refine z_icmp_le C 34 (by omega) (by omega) d_I_numberOfTrailingZeros_23 (by decide) (fun h23 => ?_) (fun h23 => ?_)
    · rw [show ntz0 x n = ntz1 x n from if_neg (by omega)]
      exact j34 x n (by omega) (by omega)
    · refine z_iinc C d_I_numberOfTrailingZeros_26 rfl (by decide) ?_
      refine z_iload_n C d_I_numberOfTrailingZeros_29 rfl ?_
      refine z_bipush C d_I_numberOfTrailingZeros_30 (by decide) ?_
      refine z_biushr C 16 rfl (by omega) (by omega) d_I_numberOfTrailingZeros_32 ?_
      refine z_istore_n C d_I_numberOfTrailingZeros_33 (by decide) ?_
      rw [show ntz0 x n = ntz1 (x / 2 ^ 16) (n + 16) from if_pos (by omega)]
      have hle : x / 2 ^ 16 ≤ x := Nat.div_le_self _ _
      exact j34 (x / 2 ^ 16) (n + 16) (by omega) (by omega)
  have hpos := lb_pos hl
  have hp2 : 2 ^ t ≤ 2 ^ 31 := Nat.pow_le_pow_right (by omega) (by omega)
  have hp1 : 0 < 2 ^ t := Nat.two_pow_pos t
  have h4 : w ^^^ (2 ^ 32 - 1) < 2 ^ 32 := Nat.xor_lt_two_pow hw (by decide)
  refine z_iload_n C d_I_numberOfTrailingZeros_0 rfl ?_
  refine z_iconst C d_I_numberOfTrailingZeros_1 ?_
  refine z_bixor1 C hw d_I_numberOfTrailingZeros_2 ?_
  refine z_iload_n C d_I_numberOfTrailingZeros_3 rfl ?_
  refine z_iconst C d_I_numberOfTrailingZeros_4 ?_
  refine z_isub C d_I_numberOfTrailingZeros_5 ?_
  refine z_top (w := iv ((w - 1 : Nat) : Int)) (by rw [show (w : Int) - 1 = ((w - 1 : Nat) : Int) from by omega]) ?_
  refine z_biand C h4 (by omega) d_I_numberOfTrailingZeros_6 ?_
  rw [lb_low hl hw ht]
  refine z_istore_n C d_I_numberOfTrailingZeros_7 (by decide) ?_
  refine z_iload_n C d_I_numberOfTrailingZeros_8 rfl ?_
  refine z_if_gt C 17 (by omega) d_I_numberOfTrailingZeros_9 (by decide) (fun h9 => ?_) (fun h9 => ?_)
  · refine z_iconst C d_I_numberOfTrailingZeros_17 ?_
    refine z_istore_n C d_I_numberOfTrailingZeros_18 (by decide) ?_
    have ht0 : 0 < t := by
      apply Classical.byContradiction
      intro c
      have e : t = 0 := by omega
      subst e
      omega
    have j := j19 (2 ^ t - 1) 1 (by omega) (by omega)
    rw [ntz_ok t ht ht0] at j
    exact j
  · have ht0 : t = 0 := by
      apply Classical.byContradiction
      intro c
      have : 2 ^ 1 ≤ 2 ^ t := Nat.pow_le_pow_right (by omega) (by omega)
      omega
    subst ht0
    refine z_iload_n C d_I_numberOfTrailingZeros_12 rfl ?_
    refine z_bipush C d_I_numberOfTrailingZeros_13 (by decide) ?_
    refine z_biand (b := 32) C (by omega) (by omega) d_I_numberOfTrailingZeros_15 ?_
    exact z_iret C d_I_numberOfTrailingZeros_16 (by decide) (by decide) (⟨rfl, rfl⟩)
set_option maxRecDepth 100000 in
set_option maxHeartbeats 4000000 in
theorem cJ_ntz (w t : Nat) (hw : w < 2 ^ 36) (hl : lb w t) : zM l D vwCl A (ztys cI cZ cJ cB) (zF A X) y_J_numberOfTrailingZeros ws_J_numberOfTrailingZeros (zroom 1 0 0) [jv (w : Int)] σ (fun r σ' => σ' = σ ∧ r = some (iv (t : Int))) := by
  refine zMet2 (zF_ok A X) (by decide) (Nat.le_of_ble_eq_true rfl) (fun K hKl C => ?_)
  have ht := bit_lt hw hl.1
  have hz := lb_z hl
  have hm : w % 2 ^ 32 < 2 ^ 32 := Nat.mod_lt _ (by decide)
  have hdv : w / 2 ^ 32 < 2 ^ 32 := by omega
  obtain ⟨v, hv1, hv2, hv3⟩ : ∃ v : Int, (-2147483648 ≤ v ∧ v ≤ 2147483647) ∧ Int32.ofInt v = Int32.ofInt ((w % 2 ^ 32 : Nat) : Int) ∧ (v = 0 ↔ w % 2 ^ 32 = 0) := by
    refine ⟨(Int32.ofInt ((w % 2 ^ 32 : Nat) : Int)).toInt, z32r _, Int32.ofInt_toInt _, ?_⟩
    rw [Int32.toInt_ofInt]
    constructor
    · intro h
      have := Int.emod_bmod ((w % 2 ^ 32 : Nat) : Int) (2 ^ 32)
      have h2 : ((w % 2 ^ 32 : Nat) : Int) % ((2 ^ 32 : Nat) : Int) = 0 := by
        have := Int.dvd_of_bmod_eq_zero h
        exact Int.emod_eq_zero_of_dvd this
      omega
    · intro h
      rw [h]
      rfl
  refine z_lload_n C d_J_numberOfTrailingZeros_0 rfl ?_
  refine z_l2i C d_J_numberOfTrailingZeros_1 ?_
  refine z_top (w := iv v) (congrArg Value.int ((bx_mod32 w).trans hv2.symm)) ?_
  refine z_istore_n C d_J_numberOfTrailingZeros_2 (by decide) ?_
  refine z_iload_n C d_J_numberOfTrailingZeros_3 rfl ?_
  refine z_if_ne C 21 (by omega) d_J_numberOfTrailingZeros_4 (by decide) (fun h4 => ?_) (fun h4 => ?_)
  · refine z_iload_n C d_J_numberOfTrailingZeros_21 rfl ?_
    refine z_top (w := iv ((w % 2 ^ 32 : Nat) : Int)) (congrArg Value.int hv2) ?_
    refine z_callS C hKl (cI_ntz (w % 2 ^ 32) (t) (by omega) (by omega) (lb_mod hl (by omega))) (zgood (fun _ h => h) tw_co_I_numberOfTrailingZeros) rfl tw_ml_J_311 tw_st_I_numberOfTrailingZeros tw_in_I pd_I_numberOfTrailingZeros (by decide) rfl (Nat.le_of_ble_eq_true rfl) (by decide) d_J_numberOfTrailingZeros_22 (fun r σ hp => ?_)
    obtain ⟨rfl, rfl⟩ := hp
    exact z_iret C d_J_numberOfTrailingZeros_25 (by decide) (by decide) (⟨rfl, rfl⟩)
  · refine z_bipush C d_J_numberOfTrailingZeros_7 (by decide) ?_
    refine z_lload_n C d_J_numberOfTrailingZeros_9 rfl ?_
    refine z_bipush C d_J_numberOfTrailingZeros_10 (by decide) ?_
    refine z_bushr C 32 rfl (by omega) (by omega) d_J_numberOfTrailingZeros_12 ?_
    refine z_l2i C d_J_numberOfTrailingZeros_13 ?_
    refine z_callS C hKl (cI_ntz (w / 2 ^ 32) (t - 32) (by omega) (by omega) (lb_div hl (by omega))) (zgood (fun _ h => h) tw_co_I_numberOfTrailingZeros) rfl tw_ml_J_311 tw_st_I_numberOfTrailingZeros tw_in_I pd_I_numberOfTrailingZeros (by decide) rfl (Nat.le_of_ble_eq_true rfl) (by decide) d_J_numberOfTrailingZeros_14 (fun r σ hp => ?_)
    obtain ⟨rfl, rfl⟩ := hp
    refine z_iadd C d_J_numberOfTrailingZeros_17 ?_
    refine z_goto C 25 d_J_numberOfTrailingZeros_18 (by decide) ?_
    exact z_iret C d_J_numberOfTrailingZeros_25 (by decide) (by decide) (⟨rfl, by rw [show (32 : Int) + ((t - 32 : Nat) : Int) = (t : Int) from by omega]⟩)
set_option maxRecDepth 100000 in
set_option maxHeartbeats 4000000 in
theorem cX_nextPairs (p : Nat) (hI : Inv s) (hx : xG cI cZ cJ cB X O bnd mkr g s kp wk σ) (hp : p < 36) : zM l D vwCl A (ztys cI cZ cJ cB) (zF A X) y_X_nextPairs ws_X_nextPairs (zroom 2 0 0) [.ref (X 0), iv ((p / 12 : Nat) : Int), iv ((p % 12 : Nat) : Int)] σ (fun r σ' => σ' = σ ∧ r = some (jv ((nxt s p : Nat) : Int))) := by
  refine zMet2 (zF_ok A X) (by decide) (Nat.le_of_ble_eq_true rfl) (fun K hKl C => ?_)
  obtain ⟨hO, hX, h1, h2, h3, h4, h5, hB, hBf, hbn, hmk, hvl, hwk, hkp, hk1, hk2, hk3⟩ := id hx
  refine z_aload_n C d_X_nextPairs_0 rfl ?_
  refine z_iload_n C d_X_nextPairs_1 rfl ?_
  refine z_iload_n C d_X_nextPairs_2 rfl ?_
  refine z_callV C hKl (cX_seenFrom (p / 12) (p % 12) hI hx (by omega) (by omega)) (zgood (fun _ h => h) tw_co_X_seenFrom) rfl (hX) rfl tw_ml_X_124 tw_im_X_seenFrom tw_se_X_seenFrom tw_in_X pd_X_seenFrom (by decide) rfl (Nat.le_of_ble_eq_true rfl) (by decide) d_X_nextPairs_3 (fun r σ hq => ?_)
  obtain ⟨rfl, rfl⟩ := hq
  by_cases hsn : sn s (p / 12) (p % 12) < 0
  · rw [if_pos hsn, show va_rf none = Value.null from rfl]
    refine z_astore_nN C d_X_nextPairs_6 (by decide) ?_
    refine z_aload_nN C d_X_nextPairs_7 rfl ?_
    refine z_ifnonnullN C d_X_nextPairs_8 ?_
    refine z_lconst C 0 d_X_nextPairs_11 rfl ?_
    exact z_lret C d_X_nextPairs_12 (by decide) (by decide) (⟨rfl, by rw [show nxt s p = 0 from if_pos hsn]; rfl⟩)
  · obtain ⟨q, a, kd, nd, ka, la, con, sc, sz, kf, zf, hq36, -, eq, hbq, -, ha, ⟨-, n1, n2, n3, n4, n5, n6⟩, -, hBK⟩ := xsee hI hx (i := p / 12) (k := p % 12) (by omega) (by omega) hsn
    rw [if_neg hsn, eq, Int.toNat_natCast, hbq, show va_rf (some a) = Value.ref a from rfl]
    have enx : nxt s p = nxk (q / 12) kf sz.toNat := by
      unfold nxt
      rw [if_neg hsn, eq, Int.toNat_natCast]
      unfold nxa
      rcases hBK with z | z | z
      · rw [if_neg (by have := z.1; omega), if_neg (by have := z.1; omega), z.2.2.2.2]
        rfl
      · rw [if_pos z.1, z.2.2.2.1]
        show _ = 0 ||| 2 ^ (q / 12 * 12 + (kf 0).toNat)
        rw [z.2.2.2.2, Nat.zero_or]
      · rw [if_neg (by have := z.1; omega), if_pos z.1, ← z.2.2.2.1]
        exact (nxk_nxn _ (fun j hj => (z.2.2.2.2 j (by omega)).1)).symm
    have loop : ∀ (m n : Nat), n + m = sz.toNat → zJ K D vwCl A 7 (zQ K D vwCl A (fun r σ' => σ' = σ ∧ r = some (jv ((nxt s p : Nat) : Int))) 0 0) 0 0 σ 19 [some (.ref (X 0)), some (iv ((p / 12 : Nat) : Int)), some (iv ((p % 12 : Nat) : Int)), some (.ref a), some (jv ((nxk (q / 12) kf n : Nat) : Int)), none, some (iv (n : Int))] [] := by
      intro m
      induction m with
      | zero =>
        intro n hn
        have e : n = sz.toNat := by omega
        subst e
        refine z_iload C d_X_nextPairs_19 rfl ?_
        refine z_aload_n C d_X_nextPairs_21 rfl ?_
        refine z_getN C in_B (ha) rfl 5 (by decide) nl_108 rfl rfl d_X_nextPairs_22 ?_
        refine z_getN C in_N (n1) rfl 2 (by decide) nl_47 rfl rfl d_X_nextPairs_25 ?_
        refine z_icmp_ge C 61 (by omega) (by omega) d_X_nextPairs_28 (by decide) (fun h28 => ?_) (fun h28 => absurd h28 (by omega))
        refine z_lload C d_X_nextPairs_61 rfl ?_
        exact z_lret C d_X_nextPairs_63 (by decide) (by decide) (⟨rfl, by rw [enx]⟩)
      | succ m ih =>
        intro n hn
        have h5 := n5 n
        have h6 := nxk_lt (b := q / 12) (by omega) n5 n
        have h7 : 2 ^ (q / 12 * 12 + (kf n).toNat) < 2 ^ 36 := pow_lt36 (by omega)
        refine z_iload C d_X_nextPairs_19 rfl ?_
        refine z_aload_n C d_X_nextPairs_21 rfl ?_
        refine z_getN C in_B (ha) rfl 5 (by decide) nl_108 rfl rfl d_X_nextPairs_22 ?_
        refine z_getN C in_N (n1) rfl 2 (by decide) nl_47 rfl rfl d_X_nextPairs_25 ?_
        refine z_icmp_ge C 61 (by omega) (by omega) d_X_nextPairs_28 (by decide) (fun h28 => absurd h28 (by omega)) (fun h28 => ?_)
        refine z_lload C d_X_nextPairs_31 rfl ?_
        refine z_lconst C 1 d_X_nextPairs_33 rfl ?_
        refine z_aload_n C d_X_nextPairs_34 rfl ?_
        refine z_getN C in_B (ha) rfl 1 (by decide) nl_115 rfl rfl d_X_nextPairs_35 ?_
        refine z_aload_n C d_X_nextPairs_38 rfl ?_
        refine z_getN C in_B (ha) rfl 5 (by decide) nl_108 rfl rfl d_X_nextPairs_39 ?_
        refine z_getN C in_N (n1) rfl 0 (by decide) nl_118 rfl rfl d_X_nextPairs_42 ?_
        refine z_iload C d_X_nextPairs_45 rfl ?_
        refine z_iald C 0 rfl n2 n rfl (by omega) (by decide) d_X_nextPairs_47 ?_
        refine z_callS C hKl (cX_pairOf (((q / 12 : Nat) : Int)) (kf n)) (zgood (fun _ h => h) tw_co_X_pairOf) rfl tw_ml_X_58 tw_st_X_pairOf tw_in_X pd_X_pairOf (by decide) rfl (Nat.le_of_ble_eq_true rfl) (by decide) d_X_nextPairs_48 (fun r σ hp => ?_)
        obtain ⟨rfl, rfl⟩ := hp
        refine z_bshl C (q / 12 * 12 + (kf n).toNat) (by omega) (by omega) d_X_nextPairs_51 ?_
        refine z_bor C (by omega) (by omega) d_X_nextPairs_52 ?_
        refine z_lstore C d_X_nextPairs_53 (by decide) ?_
        refine z_iinc C d_X_nextPairs_55 rfl (by decide) ?_
        refine z_goto C 19 d_X_nextPairs_58 (by decide) ?_
        have j := ih (n + 1) (by omega)
        rw [show ((n + 1 : Nat) : Int) = (n : Int) + 1 from by omega] at j
        exact j
    refine z_astore_n C d_X_nextPairs_6 (by decide) ?_
    refine z_aload_n C d_X_nextPairs_7 rfl ?_
    refine z_ifnonnull C 13 d_X_nextPairs_8 (by decide) ?_
    refine z_lconst C 0 d_X_nextPairs_13 rfl ?_
    refine z_lstore C d_X_nextPairs_14 (by decide) ?_
    refine z_iconst C d_X_nextPairs_16 ?_
    refine z_istore C d_X_nextPairs_17 (by decide) ?_
    exact loop sz.toNat 0 (by omega)
set_option maxRecDepth 100000 in
set_option maxHeartbeats 4000000 in
theorem cX_keysOf (M : Nat) (hM : M < 2 ^ 36) : zM l D vwCl A (ztys cI cZ cJ cB) (zF A X) y_X_keysOf ws_X_keysOf (zroom 1 0 0) [jv (M : Int)] σ (fun r σ' => σ' = σ ∧ r = some (iv ((ksm M 36 : Nat) : Int))) := by
  refine zMet2 (zF_ok A X) (by decide) (Nat.le_of_ble_eq_true rfl) (fun K hKl C => ?_)
  have d0 : M / 2 ^ 0 < 2 ^ 36 := by rw [Nat.pow_zero, Nat.div_one]; exact hM
  have d1 : M / 2 ^ 12 < 2 ^ 36 := Nat.lt_of_le_of_lt (Nat.div_le_self _ _) hM
  have d2 : M / 2 ^ 24 < 2 ^ 36 := Nat.lt_of_le_of_lt (Nat.div_le_self _ _) hM
  have o0 : 0 ||| M / 2 ^ 0 < 2 ^ 36 := Nat.or_lt_two_pow (by decide) d0
  have o1 : (0 ||| M / 2 ^ 0) ||| M / 2 ^ 12 < 2 ^ 36 := Nat.or_lt_two_pow o0 d1
  have o2 : ((0 ||| M / 2 ^ 0) ||| M / 2 ^ 12) ||| M / 2 ^ 24 < 2 ^ 36 := Nat.or_lt_two_pow o1 d2
  have st : ∀ (j : Nat) (P : Nat), j < 3 → P < 2 ^ 36 → zJ K D vwCl A 5 (zQ K D vwCl A (fun r σ' => σ' = σ ∧ r = some (iv ((ksm M 36 : Nat) : Int))) 0 0) 0 0 σ 5 [some (jv (M : Int)), none, some (jv ((P ||| M / 2 ^ (12 * j) : Nat) : Int)), none, some (iv ((j + 1 : Nat) : Int))] [] → zJ K D vwCl A 5 (zQ K D vwCl A (fun r σ' => σ' = σ ∧ r = some (iv ((ksm M 36 : Nat) : Int))) 0 0) 0 0 σ 5 [some (jv (M : Int)), none, some (jv ((P : Nat) : Int)), none, some (iv (j : Int))] [] := by
    intro j P hj hP nx
    have d : M / 2 ^ (12 * j) < 2 ^ 36 := Nat.lt_of_le_of_lt (Nat.div_le_self _ _) hM
    refine z_iload C d_X_keysOf_5 rfl ?_
    refine z_iconst C d_X_keysOf_7 ?_
    refine z_icmp_ge C 28 (by omega) (by omega) d_X_keysOf_8 (by decide) (fun h8 => absurd h8 (by omega)) (fun h8 => ?_)
    refine z_lload_n C d_X_keysOf_11 rfl ?_
    refine z_lload_n C d_X_keysOf_12 rfl ?_
    refine z_iload C d_X_keysOf_13 rfl ?_
    refine z_iconst C d_X_keysOf_15 ?_
    refine z_callS C hKl (cX_pairOf ((j : Int)) (0)) (zgood (fun _ h => h) tw_co_X_pairOf) rfl tw_ml_X_58 tw_st_X_pairOf tw_in_X pd_X_pairOf (by decide) rfl (Nat.le_of_ble_eq_true rfl) (by decide) d_X_keysOf_16 (fun r σ hp => ?_)
    obtain ⟨rfl, rfl⟩ := hp
    refine z_bushr C (12 * j) (by omega) (by omega) (by omega) d_X_keysOf_19 ?_
    refine z_bor C (by omega) (by omega) d_X_keysOf_20 ?_
    refine z_lstore_n C d_X_keysOf_21 (by decide) ?_
    refine z_iinc C d_X_keysOf_22 rfl (by decide) ?_
    refine z_goto C 5 d_X_keysOf_25 (by decide) ?_
    rw [show ((j + 1 : Nat) : Int) = (j : Int) + 1 from by omega] at nx
    exact nx
  refine z_lconst C 0 d_X_keysOf_0 rfl ?_
  refine z_lstore_n C d_X_keysOf_1 (by decide) ?_
  refine z_iconst C d_X_keysOf_2 ?_
  refine z_istore C d_X_keysOf_3 (by decide) ?_
  refine st 0 0 (by omega) (by decide) (st 1 _ (by omega) o0 (st 2 _ (by omega) o1 ?_))
  refine z_iload C d_X_keysOf_5 rfl ?_
  refine z_iconst C d_X_keysOf_7 ?_
  refine z_icmp_ge C 28 (by omega) (by omega) d_X_keysOf_8 (by decide) (fun h8 => ?_) (fun h8 => absurd h8 (by omega))
  refine z_lload_n C d_X_keysOf_28 rfl ?_
  refine z_l2i C d_X_keysOf_29 ?_
  refine z_top (w := iv (((((0 ||| M / 2 ^ 0) ||| M / 2 ^ 12) ||| M / 2 ^ 24) % 2 ^ 32 : Nat) : Int)) (congrArg Value.int (bx_mod32 (((0 ||| M / 2 ^ 0) ||| M / 2 ^ 12) ||| M / 2 ^ 24))) ?_
  refine z_sipush C d_X_keysOf_30 (by decide) ?_
  refine z_biand (b := 4095) C (Nat.mod_lt _ (by decide)) (by decide) d_X_keysOf_33 ?_
  rw [ksm_or]
  exact z_iret C d_X_keysOf_34 (by decide) (by decide) (⟨rfl, rfl⟩)
set_option maxRecDepth 100000 in
set_option maxHeartbeats 4000000 in
theorem cX_reach (i k : Int) (hI : Inv s) (hx : xG cI cZ cJ cB X O bnd mkr g s kp wk σ) (ri : -2147483648 ≤ i ∧ i ≤ 2147483647) (rk : -2147483648 ≤ k ∧ k ≤ 2147483647) : zM l D vwCl A (ztys cI cZ cJ cB) (zF A X) y_X_reach ws_X_reach (zroom 3 0 0) [.ref (X 0), iv i, iv k] σ (fun r σ' => σ' = σ ∧ ((r = some (iv (-1)) ∧ (i < 0 ∨ s 1 0 ≤ i ∨ k < 0 ∨ 11 < k)) ∨ ((0 ≤ i ∧ i < s 1 0 ∧ 0 ≤ k ∧ k ≤ 11) ∧ ∃ M : Nat, clo s (pr i k) M ∧ r = some (iv ((ksm M 36 : Nat) : Int))))) := by
  refine zMet2 (zF_ok A X) (by decide) (Nat.le_of_ble_eq_true rfl) (fun K hKl C => ?_)
  obtain ⟨hO, hX, h1, h2, h3, h4, h5, hB, hBf, hbn, hmk, hvl, hwk, hkp, hk1, hk2, hk3⟩ := id hx
  have hinj := hI.inj
  have loop : (0 ≤ i ∧ i < s 1 0 ∧ 0 ≤ k ∧ k ≤ 11) → ∀ (c n m w : Nat), n + c = 36 → xinv s (pr i k) n m w → ∀ a8 a9 : Option Value, zJ K D vwCl A 11 (zQ K D vwCl A (fun r σ' => σ' = σ ∧ ((r = some (iv (-1)) ∧ (i < 0 ∨ s 1 0 ≤ i ∨ k < 0 ∨ 11 < k)) ∨ ((0 ≤ i ∧ i < s 1 0 ∧ 0 ≤ k ∧ k ≤ 11) ∧ ∃ M : Nat, clo s (pr i k) M ∧ r = some (iv ((ksm M 36 : Nat) : Int))))) 0 0) 0 0 σ 25 [some (.ref (X 0)), some (iv i), some (iv k), some (jv ((m : Nat) : Int)), none, some (jv ((w : Nat) : Int)), none, some (iv ((n : Nat) : Int)), a8, a9, none] [] := by
    intro hok c
    induction c with
    | zero =>
      intro n m w hn hv a8 a9
      have hm36 := hv.1
      refine z_iload C d_X_reach_25 rfl ?_
      refine z_bipush C d_X_reach_27 (by decide) ?_
      refine z_icmp_ge C 91 (by omega) (by omega) d_X_reach_29 (by decide) (fun h29 => ?_) (fun h29 => absurd h29 (by omega))
      refine z_lload_n C d_X_reach_91 rfl ?_
      refine z_callS C hKl (cX_keysOf m hm36) (zgood (fun _ h => h) tw_co_X_keysOf) rfl tw_ml_X_140 tw_st_X_keysOf tw_in_X pd_X_keysOf (by decide) rfl (Nat.le_of_ble_eq_true rfl) (by decide) d_X_reach_92 (fun r σ hp => ?_)
      obtain ⟨rfl, rfl⟩ := hp
      exact z_iret C d_X_reach_95 (by decide) (by decide) (⟨rfl, Or.inr ⟨hok, m, xinv_end hv (Or.inr (by omega)), rfl⟩⟩)
    | succ c ih =>
      intro n m w hn hv a8 a9
      have hm36 := hv.1
      have hw36 : w < 2 ^ 36 := by
        apply Nat.lt_pow_two_of_testBit
        intro j hj
        rw [← Bool.not_eq_true]
        exact fun z => absurd (bit_lt hm36 (hv.2.2.1 j z)) (by omega)
      refine z_iload C d_X_reach_25 rfl ?_
      refine z_bipush C d_X_reach_27 (by decide) ?_
      refine z_icmp_ge C 91 (by omega) (by omega) d_X_reach_29 (by decide) (fun h29 => absurd h29 (by omega)) (fun h29 => ?_)
      refine z_lload C d_X_reach_32 rfl ?_
      refine z_lconst C 0 d_X_reach_34 rfl ?_
      refine z_lcmp C (by omega) (by omega) d_X_reach_35 (fun v35 hv35 => ?_)
      refine z_if_eq C 91 (by omega) d_X_reach_36 (by decide) (fun h36 => ?_) (fun h36 => ?_)
      · refine z_lload_n C d_X_reach_91 rfl ?_
        refine z_callS C hKl (cX_keysOf m hm36) (zgood (fun _ h => h) tw_co_X_keysOf) rfl tw_ml_X_140 tw_st_X_keysOf tw_in_X pd_X_keysOf (by decide) rfl (Nat.le_of_ble_eq_true rfl) (by decide) d_X_reach_92 (fun r σ hp => ?_)
        obtain ⟨rfl, rfl⟩ := hp
        exact z_iret C d_X_reach_95 (by decide) (by decide) (⟨rfl, Or.inr ⟨hok, m, xinv_end hv (Or.inl (by omega)), rfl⟩⟩)
      · obtain ⟨t, hlt⟩ := lb_ex (w := w) (by omega)
        have ht36 := bit_lt hw36 hlt.1
        have hnx := nxt_lt hI ht36
        refine z_lload C d_X_reach_39 rfl ?_
        refine z_callS C hKl (cJ_ntz w t hw36 hlt) (zgood (fun _ h => h) tw_co_J_numberOfTrailingZeros) rfl tw_ml_X_131 tw_st_J_numberOfTrailingZeros tw_in_J pd_J_numberOfTrailingZeros (by decide) rfl (Nat.le_of_ble_eq_true rfl) (by decide) d_X_reach_41 (fun r σ hp => ?_)
        obtain ⟨rfl, rfl⟩ := hp
        refine z_istore C d_X_reach_44 (by decide) ?_
        refine z_aload_n C d_X_reach_46 rfl ?_
        refine z_iload C d_X_reach_47 rfl ?_
        refine z_bipush C d_X_reach_49 (by decide) ?_
        refine z_idiv C (by omega) (by omega) d_X_reach_51 ?_
        refine z_top (w := iv ((t / 12 : Nat) : Int)) (by rw [show (t : Int) / 12 = ((t / 12 : Nat) : Int) from by omega]) ?_
        refine z_iload C d_X_reach_52 rfl ?_
        refine z_bipush C d_X_reach_54 (by decide) ?_
        refine z_irem C (by omega) (by omega) d_X_reach_56 ?_
        refine z_top (w := iv ((t % 12 : Nat) : Int)) (by rw [show (t : Int) % 12 = ((t % 12 : Nat) : Int) from by omega]) ?_
        refine z_callV C hKl (cX_nextPairs t hI hx ht36) (zgood (fun _ h => h) tw_co_X_nextPairs) rfl (hX) rfl tw_ml_X_137 tw_im_X_nextPairs tw_se_X_nextPairs tw_in_X pd_X_nextPairs (by decide) rfl (Nat.le_of_ble_eq_true rfl) (by decide) d_X_reach_57 (fun r σ hp => ?_)
        obtain ⟨rfl, rfl⟩ := hp
        have hxo : m ^^^ (2 ^ 64 - 1) < 2 ^ 64 := Nat.xor_lt_two_pow (by omega) (by decide)
        have hfr : nxt s t &&& (m ^^^ (2 ^ 64 - 1)) < 2 ^ 36 := Nat.lt_of_le_of_lt Nat.and_le_left hnx
        refine z_lload_n C d_X_reach_60 rfl ?_
        refine z_ldc2 C (-1) tw_kl_X_94 d_X_reach_61 ?_
        refine z_bxor1 C (by omega) d_X_reach_64 ?_
        refine z_band C (by omega) hxo d_X_reach_65 ?_
        refine z_lstore C d_X_reach_66 (by decide) ?_
        refine z_lload_n C d_X_reach_68 rfl ?_
        refine z_lload C d_X_reach_69 rfl ?_
        refine z_bor C (by omega) (by omega) d_X_reach_71 ?_
        refine z_lstore_n C d_X_reach_72 (by decide) ?_
        refine z_lload C d_X_reach_73 rfl ?_
        refine z_lload C d_X_reach_75 rfl ?_
        refine z_lconst C 1 d_X_reach_77 rfl ?_
        refine z_lsub C d_X_reach_78 ?_
        refine z_top (w := jv ((w - 1 : Nat) : Int)) (by rw [show (w : Int) - 1 = ((w - 1 : Nat) : Int) from by have := lb_pos hlt; omega]) ?_
        refine z_band C (by omega) (by omega) d_X_reach_79 ?_
        have hcl : w &&& (w - 1) < 2 ^ 36 := Nat.lt_of_le_of_lt Nat.and_le_left hw36
        refine z_lload C d_X_reach_80 rfl ?_
        refine z_bor C (by omega) (by omega) d_X_reach_82 ?_
        refine z_lstore C d_X_reach_83 (by decide) ?_
        refine z_iinc C d_X_reach_85 rfl (by decide) ?_
        refine z_goto C 25 d_X_reach_88 (by decide) ?_
        have hv2 : xinv s (pr i k) (n + 1) (m ||| (nxt s t &&& (m ^^^ (2 ^ 64 - 1)))) ((w &&& (w - 1)) ||| (nxt s t &&& (m ^^^ (2 ^ 64 - 1)))) := by
          refine xinv_step hI hv hlt.1 (fr := nxt s t &&& (m ^^^ (2 ^ 64 - 1))) (fun q => ?_) rfl (fun q => ?_)
          · rw [Nat.testBit_and, Nat.testBit_xor, Nat.testBit_two_pow_sub_one]
            by_cases c64 : q < 64
            · rw [decide_eq_true c64, Bool.xor_true]
            · have : (nxt s t).testBit q = false := by
                rw [← Bool.not_eq_true]
                exact fun z => absurd (bit_lt hnx z) (by omega)
              rw [this, Bool.false_and, Bool.false_and]
          · rw [Nat.testBit_or, lb_clear hlt]
        have j := ih (n + 1) _ _ (by omega) hv2 (some (iv (t : Int))) (some (jv ((nxt s t &&& (m ^^^ (2 ^ 64 - 1)) : Nat) : Int)))
        rw [show ((n + 1 : Nat) : Int) = (n : Int) + 1 from by omega] at j
        exact j
  refine z_aload_n C d_X_reach_0 rfl ?_
  refine z_iload_n C d_X_reach_1 rfl ?_
  refine z_iload_n C d_X_reach_2 rfl ?_
  refine z_callV C hKl (cX_isPair i k hI hx ri rk) (zgood (fun _ h => h) tw_co_X_isPair) rfl (hX) rfl tw_ml_X_77 tw_im_X_isPair tw_se_X_isPair tw_in_X pd_X_isPair (by decide) rfl (Nat.le_of_ble_eq_true rfl) (by decide) d_X_reach_3 (fun r σ hp => ?_)
  obtain ⟨rfl, b, rfl, hb⟩ := hp
  refine z_if_ne C 11 (by omega) d_X_reach_6 (by decide) (fun h6 => ?_) (fun h6 => ?_)
  · have hpr : ((pr i k : Nat) : Int) = 12 * i + k := by unfold pr; omega
    refine z_lconst C 1 d_X_reach_11 rfl ?_
    refine z_iload_n C d_X_reach_12 rfl ?_
    refine z_iload_n C d_X_reach_13 rfl ?_
    refine z_callS C hKl (cX_pairOf (i) (k)) (zgood (fun _ h => h) tw_co_X_pairOf) rfl tw_ml_X_58 tw_st_X_pairOf tw_in_X pd_X_pairOf (by decide) rfl (Nat.le_of_ble_eq_true rfl) (by decide) d_X_reach_14 (fun r σ hp => ?_)
    obtain ⟨rfl, rfl⟩ := hp
    refine z_bshl C (pr i k) (by omega) (by omega) d_X_reach_17 ?_
    refine z_lstore_n C d_X_reach_18 (by decide) ?_
    refine z_lload_n C d_X_reach_19 rfl ?_
    refine z_lstore C d_X_reach_20 (by decide) ?_
    refine z_iconst C d_X_reach_22 ?_
    refine z_istore C d_X_reach_23 (by decide) ?_
    exact loop (by omega) 36 0 _ _ (by omega) (xinv_0 s (by omega)) none none
  · refine z_iconst C d_X_reach_9 ?_
    exact z_iret C d_X_reach_10 (by decide) (by decide) (⟨rfl, Or.inl ⟨rfl, by omega⟩⟩)
end XC12
