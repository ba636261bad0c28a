/-! the class's constructor -/
def XI (σ0 σ : zh) (x0 : Nat) (fs : List Value) (L : List (Nat × va_E)) : Prop := σ x0 = some (ob 2 fs) ∧ (∀ r ∈ L, σ r.1 = some r.2 ∧ ∀ b e, σ0 b = some e → b ≠ r.1) ∧ ∀ a e, σ0 a = some e → a ≠ x0 → σ a = some e
theorem XI.fr {σ0 σ : zh} {x0 q : Nat} {fs : List Value} {L : List (Nat × va_E)} (h : XI σ0 σ x0 fs L) (h0 : ∃ e, σ0 x0 = some e) (hq : ∀ b e, σ b = some e → b ≠ q) : ∀ b e, σ0 b = some e → b ≠ q := fun b e hb => by
  by_cases c : b = x0
  · rw [c]; exact hq _ _ h.1
  · exact hq b e (h.2.2 b e hb c)
theorem XI.add {σ0 σ : zh} {x0 q : Nat} {fs : List Value} {L : List (Nat × va_E)} (h : XI σ0 σ x0 fs L) (h0 : ∃ e, σ0 x0 = some e) (hq : ∀ b e, σ b = some e → b ≠ q) (e : va_E) : XI σ0 (zput σ q e) x0 fs ((q, e) :: L) := by
  refine ⟨by rw [zput_n (hq _ _ h.1)]; exact h.1, fun r hr => ?_, fun a x ha hne => ?_⟩
  · rcases List.mem_cons.mp hr with rfl | hr
    · exact ⟨zput_s _ _ _, h.fr h0 hq⟩
    · have := h.2.1 r hr
      exact ⟨by rw [zput_n (hq _ _ this.1)]; exact this.1, this.2⟩
  · rw [zput_n (h.fr h0 hq a x ha)]; exact h.2.2 a x ha hne
theorem XI.put {σ0 σ : zh} {x0 : Nat} {fs : List Value} {L : List (Nat × va_E)} (h : XI σ0 σ x0 fs L) (h0 : ∃ e, σ0 x0 = some e) (fs' : List Value) : XI σ0 (zput σ x0 (ob 2 fs')) x0 fs' L := by
  obtain ⟨e0, h0⟩ := h0
  refine ⟨zput_s _ _ _, fun r hr => ?_, fun a x ha hne => ?_⟩
  · have := h.2.1 r hr
    exact ⟨by rw [zput_n (Ne.symm (this.2 _ _ h0))]; exact this.1, this.2⟩
  · rw [zput_n hne]; exact h.2.2 a x ha hne
theorem XI.wr {σ0 σ : zh} {x0 q : Nat} {fs : List Value} {e : va_E} (h : XI σ0 σ x0 fs [(q, e)]) (h0 : ∃ e, σ0 x0 = some e) (e' : va_E) : XI σ0 (zput σ q e') x0 fs [(q, e')] := by
  obtain ⟨e0, h0⟩ := h0
  have hq := (h.2.1 _ List.mem_cons_self).2
  refine ⟨by rw [zput_n (hq _ _ h0)]; exact h.1, fun r hr => ?_, fun a x ha hne => ?_⟩
  · rcases List.mem_cons.mp hr with rfl | hr
    · exact ⟨zput_s _ _ _, hq⟩
    · cases hr
  · rw [zput_n (hq a x ha)]; exact h.2.2 a x ha hne
theorem XI.nd {σ0 σ σ' : zh} {x0 nd ka la : Nat} {fs : List Value} {L : List (Nat × va_E)} {e e0 e1 e2 : va_E} (h : XI σ0 σ x0 fs ((nd, e) :: L)) (h0 : ∃ e, σ0 x0 = some e) (hd : ∀ r ∈ L, r.1 ≠ nd) (hfr : ∀ b x, σ b = some x → b ≠ ka ∧ b ≠ la) (g6 : σ' nd = some e0) (g7 : σ' ka = some e1) (g8 : σ' la = some e2) (gu : ∀ b, b ≠ nd → b ≠ ka → b ≠ la → σ' b = σ b) : XI σ0 σ' x0 fs ((nd, e0) :: (ka, e1) :: (la, e2) :: L) := by
  have hn := (h.2.1 _ List.mem_cons_self).2
  obtain ⟨x, hx⟩ := h0
  have kf : ∀ b e, σ0 b = some e → b ≠ ka ∧ b ≠ la := fun b e q => by
    by_cases c : b = x0
    · rw [c]; exact hfr _ _ h.1
    · exact hfr b e (h.2.2 b e q c)
  refine ⟨?_, fun r hr => ?_, fun a y ha hne => ?_⟩
  · rw [gu x0 (hn _ _ hx) (kf _ _ hx).1 (kf _ _ hx).2]; exact h.1
  · rcases List.mem_cons.mp hr with rfl | hr
    · exact ⟨g6, hn⟩
    · rcases List.mem_cons.mp hr with rfl | hr
      · exact ⟨g7, fun b e q => (kf b e q).1⟩
      · rcases List.mem_cons.mp hr with rfl | hr
        · exact ⟨g8, fun b e q => (kf b e q).2⟩
        · have q := h.2.1 r (List.mem_cons_of_mem _ hr)
          exact ⟨by rw [gu _ (hd r hr) (hfr _ _ q.1).1 (hfr _ _ q.1).2]; exact q.1, q.2⟩
  · rw [gu a (hn _ _ ha) (kf _ _ ha).1 (kf _ _ ha).2]; exact h.2.2 a y ha hne
section XC11
variable {l : Launch} {D : va_G} {A : Nat → Prop} {cI cZ cJ cB : ClassId} {X : Nat → Nat} {σ : zh}
set_option maxRecDepth 100000 in
set_option maxHeartbeats 4000000 in
theorem cX_init (x0 : Nat) (h0 : σ x0 = some (ob 2 [.null, .null, .null, .null, .null, .null, .int 0, .int 0, .int 0])) (hk : X 9 ≠ X 10 ∧ X 9 ≠ X 11 ∧ X 10 ≠ X 11) : zM l D vwCl A (ztys cI cZ cJ cB) (zF A X) y_X_init ws_X_init (zroom 1 8 694) [.ref x0] σ (fun r σ' => r = none ∧ ∃ (X' : Nat → Nat) (O' : Nat → Prop), X' 0 = x0 ∧ X' 9 = X 9 ∧ X' 10 = X 10 ∧ X' 11 = X 11 ∧ xR cI cZ cJ cB X' O' s00 σ' ∧ ∀ a e, σ a = some e → a ≠ x0 → σ' a = some e ∧ ¬ O' a) := by
  refine zMet2 (zF_ok A X) (by decide) (Nat.le_of_ble_eq_true rfl) (fun K hKl C => ?_)
  have h00 : ∃ e, σ x0 = some e := ⟨_, h0⟩
  have hR : XI σ σ x0 [.null, .null, .null, .null, .null, .null, .int 0, .int 0, .int 0] [] := ⟨h0, fun r hr => (by cases hr), fun a e ha _ => ha⟩
  refine z_aload_n C d_X_init_0 rfl ?_
  refine z_oinit C tw_ml_X_3 tw_im_oinit tw_co_oinit d_X_init_1 (by decide) (by decide) (by decide) ?_
  refine z_aload_n C d_X_init_4 rfl ?_
  refine z_iconst C d_X_init_5 ?_
  refine z_newi C 0 rfl tw_ac_int rfl 3 rfl (by decide) (by decide) (by decide) d_X_init_6 (fun q1 hq1 => ?_)
  have hR := hR.add h00 hq1 (ia cI 3 (fun _ => 0))
  refine z_putF C in_X t_X tk_X nm_X hR.1 rfl 0 (by decide) tw_fl_X_9 rfl rfl rfl (tk_X 0 (by decide)) rfl rfl (Nat.le_of_ble_eq_true rfl) d_X_init_8 ?_
  have hR := hR.put h00 [.ref q1, .null, .null, .null, .null, .null, .int 0, .int 0, .int 0]
  refine z_aload_n C d_X_init_11 rfl ?_
  refine z_get C in_X (hR.1) rfl 0 (by decide) tw_fl_X_9 rfl rfl d_X_init_12 ?_
  refine z_iconst C d_X_init_15 ?_
  refine z_iconst C d_X_init_16 ?_
  refine z_iast C 0 rfl (hR.2.1 _ List.mem_cons_self).1 0 rfl (by decide) (by decide) d_X_init_17 ?_
  have hR := hR.wr h00 (ia cI 3 (iup (fun _ => 0) 0 (-1)))
  refine z_aload_n C d_X_init_18 rfl ?_
  refine z_iconst C d_X_init_19 ?_
  refine z_put C in_X t_X tk_X nm_X hR.1 rfl 6 (by decide) tw_fl_X_13 rfl rfl (tk_X 6 (by decide)) rfl rfl (Nat.le_of_ble_eq_true rfl) d_X_init_20 ?_
  have hR := hR.put h00 [.ref q1, .null, .null, .null, .null, .null, iv 1, .int 0, .int 0]
  refine z_aload_n C d_X_init_23 rfl ?_
  refine z_bipush C d_X_init_24 (by decide) ?_
  refine z_newa C 3 rfl tw_cl_X_17 (fun _ h => h.2.1) 36 rfl (by decide) (by decide) (by decide) d_X_init_26 (fun q2 hq2 => ?_)
  have hR := hR.add h00 hq2 (ra cB 36 (fun _ => none))
  refine z_putF C in_X t_X tk_X nm_X hR.1 rfl 1 (by decide) tw_fl_X_19 rfl rfl rfl (tk_X 1 (by decide)) rfl rfl (Nat.le_of_ble_eq_true rfl) d_X_init_29 ?_
  have hR := hR.put h00 [.ref q1, .ref q2, .null, .null, .null, .null, iv 1, .int 0, .int 0]
  refine z_aload_n C d_X_init_32 rfl ?_
  refine z_bipush C d_X_init_33 (by decide) ?_
  refine z_newa C 3 rfl tw_cl_X_17 (fun _ h => h.2.1) 100 rfl (by decide) (by decide) (by decide) d_X_init_35 (fun q3 hq3 => ?_)
  have hR := hR.add h00 hq3 (ra cB 100 (fun _ => none))
  refine z_putF C in_X t_X tk_X nm_X hR.1 rfl 2 (by decide) tw_fl_X_23 rfl rfl rfl (tk_X 2 (by decide)) rfl rfl (Nat.le_of_ble_eq_true rfl) d_X_init_38 ?_
  have hR := hR.put h00 [.ref q1, .ref q2, .ref q3, .null, .null, .null, iv 1, .int 0, .int 0]
  refine z_aload_n C d_X_init_41 rfl ?_
  refine z_sipush C d_X_init_42 (by decide) ?_
  refine z_newl C 2 rfl tw_ac_long rfl 400 rfl (by decide) (by decide) (by decide) d_X_init_45 (fun q4 hq4 => ?_)
  have hR := hR.add h00 hq4 (la cJ 400 (fun _ => 0))
  refine z_putF C in_X t_X tk_X nm_X hR.1 rfl 3 (by decide) tw_fl_X_26 rfl rfl rfl (tk_X 3 (by decide)) rfl rfl (Nat.le_of_ble_eq_true rfl) d_X_init_47 ?_
  have hR := hR.put h00 [.ref q1, .ref q2, .ref q3, .ref q4, .null, .null, iv 1, .int 0, .int 0]
  refine z_aload_n C d_X_init_50 rfl ?_
  refine z_sipush C d_X_init_51 (by decide) ?_
  refine z_newl C 2 rfl tw_ac_long rfl 144 rfl (by decide) (by decide) (by decide) d_X_init_54 (fun q5 hq5 => ?_)
  have hR := hR.add h00 hq5 (la cJ 144 (fun _ => 0))
  refine z_putF C in_X t_X tk_X nm_X hR.1 rfl 4 (by decide) tw_fl_X_30 rfl rfl rfl (tk_X 4 (by decide)) rfl rfl (Nat.le_of_ble_eq_true rfl) d_X_init_56 ?_
  have hR := hR.put h00 [.ref q1, .ref q2, .ref q3, .ref q4, .ref q5, .null, iv 1, .int 0, .int 0]
  refine z_aload_n C d_X_init_59 rfl ?_
  refine z_new C in_N t_N tk_N tw_cl_X_33 tw_is_N tw_in_N (ci := 1) rfl dv_N (by decide) (by decide) d_X_init_60 (fun nd hfn => ?_)
  have hd : ∀ r ∈ [(q5, (la cJ 144 (fun _ => 0) : va_E)), (q4, la cJ 400 (fun _ => 0)), (q3, ra cB 100 (fun _ => none)), (q2, ra cB 36 (fun _ => none)), (q1, ia cI 3 (iup (fun _ => 0) 0 (-1)))], r.1 ≠ nd := fun r hr => hfn _ _ (hR.2.1 r hr).1
  have hR := hR.add h00 hfn (ob 1 [.null, .null, .int 0])
  refine z_dup C rfl d_X_init_63 ?_
  refine z_callIN (ret2 := none) C hKl (cN_init (nd := nd) (zput_s _ _ _)) (zgood (fun _ h => h) tw_co_N_init) rfl nl_35 tw_im_N_init tw_in_N rfl pd_N_init (by decide) rfl (Nat.le_of_ble_eq_true rfl) (by decide) d_X_init_64 (fun r σ1 hq => ?_)
  obtain ⟨rfl, ka, la9, hkl, hnk, hnl, hfr, g6, g7, g8, gu⟩ := hq
  have hR := hR.nd h00 hd hfr g6 g7 g8 gu
  refine z_put C in_X t_X tk_X nm_X hR.1 rfl 5 (by decide) tw_fl_X_36 rfl rfl (tk_X 5 (by decide)) rfl rfl (Nat.le_of_ble_eq_true rfl) d_X_init_67 ?_
  have hR := hR.put h00 [.ref q1, .ref q2, .ref q3, .ref q4, .ref q5, .ref nd, iv 1, .int 0, .int 0]
  exact z_vret C d_X_init_70 (by decide) (by decide) (by
    obtain ⟨r0, r1, r2⟩ := hR
    have m : ∀ r ∈ [(nd, (ob 1 [.ref ka, .ref la9, iv 0] : va_E)), (ka, ia cI 4 (fun _ => 0)), (la9, ia cZ 4 (fun _ => 0)), (q5, la cJ 144 (fun _ => 0)), (q4, la cJ 400 (fun _ => 0)), (q3, ra cB 100 (fun _ => none)), (q2, ra cB 36 (fun _ => none)), (q1, ia cI 3 (iup (fun _ => 0) 0 (-1)))], _ := r1
    have c0 := m _ (List.mem_of_getElem? (i := 0) rfl)
    have c1 := m _ (List.mem_of_getElem? (i := 1) rfl)
    have c2 := m _ (List.mem_of_getElem? (i := 2) rfl)
    have c3 := m _ (List.mem_of_getElem? (i := 3) rfl)
    have c4 := m _ (List.mem_of_getElem? (i := 4) rfl)
    have c5 := m _ (List.mem_of_getElem? (i := 5) rfl)
    have c6 := m _ (List.mem_of_getElem? (i := 6) rfl)
    have c7 := m _ (List.mem_of_getElem? (i := 7) rfl)
    refine ⟨rfl, (nup (nup (nup (nup (nup (nup (nup (nup (nup X 0 x0) 1 q1) 2 q2) 3 q3) 4 q4) 5 q5) 6 nd) 7 ka) 8 la9), (fun b => b = x0 ∨ b = q1 ∨ b = q2 ∨ b = q3 ∨ b = q4 ∨ b = q5 ∨ b = nd ∨ b = ka ∨ b = la9), rfl, rfl, rfl, rfl, ⟨(fun _ => none), (fun _ => none), (fun _ _ => 0), ⟨Or.inl rfl, Or.inr (Or.inl rfl), Or.inr (Or.inr (Or.inl rfl)), Or.inr (Or.inr (Or.inr (Or.inl rfl))), Or.inr (Or.inr (Or.inr (Or.inr (Or.inl rfl)))), Or.inr (Or.inr (Or.inr (Or.inr (Or.inr (Or.inl rfl)))))⟩, r0, c7.1, c6.1, c5.1, c4.1, c3.1, ⟨⟨⟨Or.inr (Or.inr (Or.inr (Or.inr (Or.inr (Or.inr (Or.inl rfl)))))), Or.inr (Or.inr (Or.inr (Or.inr (Or.inr (Or.inr (Or.inr (Or.inl rfl))))))), Or.inr (Or.inr (Or.inr (Or.inr (Or.inr (Or.inr (Or.inr (Or.inr rfl)))))))⟩, c0.1, c1.1, c2.1, by show (0 : Int) ≤ 0 ∧ (0 : Int) ≤ 4; omega, fun _ => by show (0 : Int) ≤ 0 ∧ (0 : Int) ≤ 11; omega, fun _ => Or.inl rfl⟩, hkl⟩, fun _ _ => ⟨rfl, rfl⟩, fun p hp => Or.inl ⟨rfl, rfl⟩, fun i hi => absurd hi (by show ¬ (i : Int) < 0; omega), fun i j hi => absurd hi (by show ¬ (i : Int) < 0; omega), fun _ => Or.inl rfl, fun _ => by show -1 ≤ (0 + 0 : Int) - 1 ∧ (0 + 0 : Int) - 1 ≤ 200; omega, hk.1, hk.2.1, hk.2.2⟩, fun a e ha hne => ⟨r2 a e ha hne, fun z => ?_⟩⟩
    rcases z with z | z | z | z | z | z | z | z | z
    · exact hne z
    · exact c7.2 a e ha z
    · exact c6.2 a e ha z
    · exact c5.2 a e ha z
    · exact c4.2 a e ha z
    · exact c3.2 a e ha z
    · exact c0.2 a e ha z
    · exact c1.2 a e ha z
    · exact c2.2 a e ha z)
end XC11
