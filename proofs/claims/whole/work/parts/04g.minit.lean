/-! the reference's constructor: array by array -/
def z0 : St := fun _ _ => 0
def s00 : St := sup (sup z0 1 0 1) 0 0 (-1)
def nup (ad : Nat → Nat) (f q : Nat) : Nat → Nat := fun g => if g = f then q else ad g
theorem nup_s (ad : Nat → Nat) (f q : Nat) : nup ad f q f = q := by simp [nup]
theorem nup_n {ad : Nat → Nat} {f q g : Nat} (h : g ≠ f) : nup ad f q g = ad g := by simp [nup, h]
def RI (cI cZ cJ : ClassId) (d : Nat → Bool) (m0 : Nat) (ad : Nat → Nat) (fs : List Value) (σ0 σ : zh) : Prop := σ m0 = some (ob 3 fs) ∧ fs.length = 28 ∧ (∀ f, d f = true → σ (ad f) = some (mcell cI cZ cJ f z0) ∧ (∀ a e, σ0 a = some e → a ≠ ad f)) ∧ (∀ f g, d f = true → d g = true → ad f = ad g → f = g) ∧ ∀ a e, σ0 a = some e → a ≠ m0 → σ a = some e
def dadd (d : Nat → Bool) (f : Nat) : Nat → Bool := fun g => g == f || d g
theorem RI.new {cI cZ cJ : ClassId} {d : Nat → Bool} {m0 : Nat} {ad : Nat → Nat} {fs : List Value} {σ0 σ : zh} (h : RI cI cZ cJ d m0 ad fs σ0 σ) (h0 : ∃ e, σ0 m0 = some e) {f q : Nat} (hf : d f = false) (hq : ∀ (b : Nat) (x : va_E), σ b = some x → b ≠ q) : RI cI cZ cJ (dadd d f) m0 (nup ad f q) (fs.set f (.ref q)) σ0 (zput (zput σ q (mcell cI cZ cJ f z0)) m0 (ob 3 (fs.set f (.ref q)))) := by
  obtain ⟨h1, h2, h3, h4, h5⟩ := h
  have hm : m0 ≠ q := hq _ _ h1
  have old : ∀ g, d g = true → g ≠ f := fun g hg e => by rw [e, hf] at hg; cases hg
  have adm : ∀ g, d g = true → ad g ≠ m0 := fun g hg e => by
    obtain ⟨x, hx⟩ := mcell_arr cI cZ cJ g z0
    have h6 := (h3 g hg).1
    rw [e, h1, hx] at h6
    cases h6
  have key : ∀ g, dadd d f g = true → g = f ∨ (g ≠ f ∧ d g = true) := fun g hg => by
    unfold dadd at hg
    rw [Bool.or_eq_true, beq_iff_eq] at hg
    rcases hg with e | e
    · exact Or.inl e
    · exact Or.inr ⟨old g e, e⟩
  refine ⟨zput_s _ _ _, by simp [h2], fun g hg => ?_, fun a b ha hb e => ?_, fun a e ha hne => ?_⟩
  · rcases key g hg with rfl | ⟨hne, hg⟩
    · rw [nup_s, zput_n (Ne.symm hm), zput_s]
      refine ⟨rfl, fun a e ha z => ?_⟩
      subst z
      by_cases c : a = m0
      · exact hm c.symm
      · exact hq _ _ (h5 a e ha c) rfl
    · rw [nup_n hne, zput_n (adm g hg), zput_n (hq _ _ (h3 g hg).1)]
      exact h3 g hg
  · rcases key a ha with rfl | ⟨na, da⟩
    · rcases key b hb with rfl | ⟨nb, db⟩
      · rfl
      · rw [nup_s, nup_n nb] at e
        exact absurd e.symm (hq _ _ (h3 b db).1)
    · rcases key b hb with rfl | ⟨nb, db⟩
      · rw [nup_s, nup_n na] at e
        exact absurd e (hq _ _ (h3 a da).1)
      · rw [nup_n na, nup_n nb] at e
        exact h4 a b da db e
  · rw [zput_n hne, zput_n (hq _ _ (h5 a e ha hne))]
    exact h5 a e ha hne
theorem RI.setS {cI cZ cJ : ClassId} {d : Nat → Bool} {m0 : Nat} {ad : Nat → Nat} {fs : List Value} {σ0 σ : zh} (h : RI cI cZ cJ d m0 ad fs σ0 σ) (k : Nat) (v : Value) : RI cI cZ cJ d m0 ad (fs.set k v) σ0 (zput σ m0 (ob 3 (fs.set k v))) := by
  obtain ⟨h1, h2, h3, h4, h5⟩ := h
  refine ⟨zput_s _ _ _, by simp [h2], fun g hg => ?_, h4, fun a e ha hne => ?_⟩
  · rw [zput_n (fun z => ?_)]
    · exact h3 g hg
    · obtain ⟨x, hx⟩ := mcell_arr cI cZ cJ g z0
      have h6 := (h3 g hg).1
      rw [z, h1, hx] at h6
      cases h6
  · rw [zput_n hne]; exact h5 a e ha hne
section MI0
variable {K : zC} {D : va_G} {A : Nat → Prop} {cI cZ cJ cB : ClassId} {F : State → Prop} {rm : Room} {cc : ByteArray} {nL : Nat} {ret : Option FieldType} {Q : State → Prop} {cells slots pc : Nat} {σ0 σ : zh} {lv : List (Option Value)} {m0 : Nat} {ad : Nat → Nat} {d : Nat → Bool} {fs : List Value}
theorem m_newi (C : zCx K D vwCl A (ztys cI cZ cJ cB) F rm cc "InjectorTreeModel" "<init>" zw nL ret) (hR : RI cI cZ cJ d m0 ad fs σ0 σ) (h0 : ∃ e, σ0 m0 = some e) {i : Int} {index : Nat} {ty : FieldType} (f n : Nat) (hf : f < 28) (hdf : d f = false) (hi : i = (n : Int)) (hn : n ≤ 1000000) (hc : mcell cI cZ cJ f z0 = ia cI n (fun _ => 0)) (hcs : cells + 1 ≤ rm.cells) (hss : slots + n ≤ rm.slots) (hd : decode cc pc = .ok (.newarray .int, 2)) (hl : Cond.fieldLink "InjectorTreeModel" index "InjectorTreeModel" (T_M f).2.1 (T_M f).2.2.1 ∈ zw) (hr : (T_M f).1 = "InjectorTreeModel") (hfin : (T_M f).2.2.2 = true) (hd9 : parseFieldDescriptor (T_M f).2.2.1 = some ty) (hnn : ∀ q, narrow ty (.ref q) = .ref q) (hfit : ∀ q, fits ty (.ref q) = true) (hd2 : decode cc (pc + 2) = .ok (.putfield index, 3))
    (kk : ∀ (q : Nat) (σ' : zh), RI cI cZ cJ (dadd d f) m0 (nup ad f q) (fs.set f (.ref q)) σ0 σ' → zJ K D vwCl A nL Q (cells + 1) (slots + n) σ' (pc + 5) lv []) : zJ K D vwCl A nL Q cells slots σ pc lv [iv i, .ref m0] := by
  refine z_newi C 0 rfl tw_ac_int rfl n hi hn hcs hss hd (fun q hq => ?_)
  have hne : m0 ≠ q := hq _ _ hR.1
  have hX : zput σ q (ia cI n (fun _ => 0)) m0 = some (ob 3 fs) := by rw [zput_n hne]; exact hR.1
  refine z_putF C in_M t_M tk_M nm_M hX rfl f hf hl hr hfin rfl hd9 (hnn q) (hfit q) (by rw [hR.2.1]; exact hf) hd2 ?_
  rw [← hc]
  exact kk q _ (hR.new h0 hdf hq)
theorem m_newz (C : zCx K D vwCl A (ztys cI cZ cJ cB) F rm cc "InjectorTreeModel" "<init>" zw nL ret) (hR : RI cI cZ cJ d m0 ad fs σ0 σ) (h0 : ∃ e, σ0 m0 = some e) {i : Int} {index : Nat} {ty : FieldType} (f n : Nat) (hf : f < 28) (hdf : d f = false) (hi : i = (n : Int)) (hn : n ≤ 1000000) (hc : mcell cI cZ cJ f z0 = ia cZ n (fun _ => 0)) (hcs : cells + 1 ≤ rm.cells) (hss : slots + n ≤ rm.slots) (hd : decode cc pc = .ok (.newarray .boolean, 2)) (hl : Cond.fieldLink "InjectorTreeModel" index "InjectorTreeModel" (T_M f).2.1 (T_M f).2.2.1 ∈ zw) (hr : (T_M f).1 = "InjectorTreeModel") (hfin : (T_M f).2.2.2 = true) (hd9 : parseFieldDescriptor (T_M f).2.2.1 = some ty) (hnn : ∀ q, narrow ty (.ref q) = .ref q) (hfit : ∀ q, fits ty (.ref q) = true) (hd2 : decode cc (pc + 2) = .ok (.putfield index, 3))
    (kk : ∀ (q : Nat) (σ' : zh), RI cI cZ cJ (dadd d f) m0 (nup ad f q) (fs.set f (.ref q)) σ0 σ' → zJ K D vwCl A nL Q (cells + 1) (slots + n) σ' (pc + 5) lv []) : zJ K D vwCl A nL Q cells slots σ pc lv [iv i, .ref m0] := by
  refine z_newz C 1 rfl tw_ac_boolean rfl n hi hn hcs hss hd (fun q hq => ?_)
  have hne : m0 ≠ q := hq _ _ hR.1
  have hX : zput σ q (ia cZ n (fun _ => 0)) m0 = some (ob 3 fs) := by rw [zput_n hne]; exact hR.1
  refine z_putF C in_M t_M tk_M nm_M hX rfl f hf hl hr hfin rfl hd9 (hnn q) (hfit q) (by rw [hR.2.1]; exact hf) hd2 ?_
  rw [← hc]
  exact kk q _ (hR.new h0 hdf hq)
theorem m_newl (C : zCx K D vwCl A (ztys cI cZ cJ cB) F rm cc "InjectorTreeModel" "<init>" zw nL ret) (hR : RI cI cZ cJ d m0 ad fs σ0 σ) (h0 : ∃ e, σ0 m0 = some e) {i : Int} {index : Nat} {ty : FieldType} (f n : Nat) (hf : f < 28) (hdf : d f = false) (hi : i = (n : Int)) (hn : n ≤ 1000000) (hc : mcell cI cZ cJ f z0 = la cJ n (fun _ => 0)) (hcs : cells + 1 ≤ rm.cells) (hss : slots + n ≤ rm.slots) (hd : decode cc pc = .ok (.newarray .long, 2)) (hl : Cond.fieldLink "InjectorTreeModel" index "InjectorTreeModel" (T_M f).2.1 (T_M f).2.2.1 ∈ zw) (hr : (T_M f).1 = "InjectorTreeModel") (hfin : (T_M f).2.2.2 = true) (hd9 : parseFieldDescriptor (T_M f).2.2.1 = some ty) (hnn : ∀ q, narrow ty (.ref q) = .ref q) (hfit : ∀ q, fits ty (.ref q) = true) (hd2 : decode cc (pc + 2) = .ok (.putfield index, 3))
    (kk : ∀ (q : Nat) (σ' : zh), RI cI cZ cJ (dadd d f) m0 (nup ad f q) (fs.set f (.ref q)) σ0 σ' → zJ K D vwCl A nL Q (cells + 1) (slots + n) σ' (pc + 5) lv []) : zJ K D vwCl A nL Q cells slots σ pc lv [iv i, .ref m0] := by
  refine z_newl C 2 rfl tw_ac_long rfl n hi hn hcs hss hd (fun q hq => ?_)
  have hne : m0 ≠ q := hq _ _ hR.1
  have hX : zput σ q (la cJ n (fun _ => 0)) m0 = some (ob 3 fs) := by rw [zput_n hne]; exact hR.1
  refine z_putF C in_M t_M tk_M nm_M hX rfl f hf hl hr hfin rfl hd9 (hnn q) (hfit q) (by rw [hR.2.1]; exact hf) hd2 ?_
  rw [← hc]
  exact kk q _ (hR.new h0 hdf hq)
end MI0
set_option maxRecDepth 100000 in
set_option maxHeartbeats 4000000 in
theorem cM_init {l : Launch} {D : va_G} {A : Nat → Prop} {cI cZ cJ cB : ClassId} {F : State → Prop} {m0 : Nat} {σ : zh} (hF : zFok F A) (h0 : σ m0 = some (ob 3 [.null, .int 0, .null, .null, .int 0, .null, .null, .null, .null, .null, .null, .null, .null, .null, .null, .int 0, .null, .null, .null, .null, .null, .null, .null, .int 0, .null, .null, .null, .int 0])) : zM l D vwCl A (ztys cI cZ cJ cB) F y_M_init ws_M_init (zroom 1 23 2403) [.ref m0] σ (fun r σ' => r = none ∧ ∃ ad : Nat → Nat, RM cI cZ cJ m0 ad s00 σ' ∧ ∀ a e, σ a = some e → a ≠ m0 → σ' a = some e ∧ ¬ MA m0 ad a) := by
  refine zMet2 hF (by decide) (Nat.le_of_ble_eq_true rfl) (fun K hKl C => ?_)
  have hR : RI cI cZ cJ (fun _ => false) m0 (fun _ => 0) [.null, .int 0, .null, .null, .int 0, .null, .null, .null, .null, .null, .null, .null, .null, .null, .null, .int 0, .null, .null, .null, .null, .null, .null, .null, .int 0, .null, .null, .null, .int 0] σ σ := ⟨h0, rfl, fun _ h => (by cases h), fun _ _ h => (by cases h), fun _ _ h _ => h⟩
  have hex : ∃ e, σ m0 = some e := ⟨_, h0⟩
  refine z_aload_n C d_M_init_0 rfl ?_
  refine z_oinit C tw_ml_M_1 tw_im_oinit tw_co_oinit d_M_init_1 (by decide) (by decide) (Nat.le_of_ble_eq_true rfl) ?_
  refine z_aload_n C d_M_init_4 rfl ?_
  refine z_iconst C d_M_init_5 ?_
  refine m_newi C hR hex 0 3 (by decide) rfl rfl (by decide) rfl (by decide) (by decide) d_M_init_6 tw_fl_M_7 rfl rfl (tk_M 0 (by decide)) (fun _ => rfl) (fun _ => rfl) d_M_init_8 (fun q0 σ1 hR => ?_)
  have hR : RI cI cZ cJ _ m0 _ [.ref q0, .int 0, .null, .null, .int 0, .null, .null, .null, .null, .null, .null, .null, .null, .null, .null, .int 0, .null, .null, .null, .null, .null, .null, .null, .int 0, .null, .null, .null, .int 0] σ σ1 := hR
  refine z_aload_n C d_M_init_11 rfl ?_
  refine z_iconst C d_M_init_12 ?_
  refine z_put C in_M t_M tk_M nm_M hR.1 rfl 1 (by decide) tw_fl_M_13 rfl rfl (tk_M 1 (by decide)) rfl rfl (by rw [hR.2.1]; decide) d_M_init_13 ?_
  have hR := hR.setS 1 (iv 1)
  have hR : RI cI cZ cJ _ m0 _ [.ref q0, iv 1, .null, .null, .int 0, .null, .null, .null, .null, .null, .null, .null, .null, .null, .null, .int 0, .null, .null, .null, .null, .null, .null, .null, .int 0, .null, .null, .null, .int 0] σ (zput σ1 m0 (ob 3 [.ref q0, iv 1, .null, .null, .int 0, .null, .null, .null, .null, .null, .null, .null, .null, .null, .null, .int 0, .null, .null, .null, .null, .null, .null, .null, .int 0, .null, .null, .null, .int 0])) := hR
  refine z_aload_n C d_M_init_16 rfl ?_
  refine z_iconst C d_M_init_17 ?_
  refine m_newi C hR hex 2 4 (by decide) rfl rfl (by decide) rfl (by decide) (by decide) d_M_init_18 tw_fl_M_17 rfl rfl (tk_M 2 (by decide)) (fun _ => rfl) (fun _ => rfl) d_M_init_20 (fun q2 σ1 hR => ?_)
  have hR : RI cI cZ cJ _ m0 _ [.ref q0, iv 1, .ref q2, .null, .int 0, .null, .null, .null, .null, .null, .null, .null, .null, .null, .null, .int 0, .null, .null, .null, .null, .null, .null, .null, .int 0, .null, .null, .null, .int 0] σ σ1 := hR
  refine z_aload_n C d_M_init_23 rfl ?_
  refine z_iconst C d_M_init_24 ?_
  refine m_newz C hR hex 3 4 (by decide) rfl rfl (by decide) rfl (by decide) (by decide) d_M_init_25 tw_fl_M_20 rfl rfl (tk_M 3 (by decide)) (fun _ => rfl) (fun _ => rfl) d_M_init_27 (fun q3 σ1 hR => ?_)
  have hR : RI cI cZ cJ _ m0 _ [.ref q0, iv 1, .ref q2, .ref q3, .int 0, .null, .null, .null, .null, .null, .null, .null, .null, .null, .null, .int 0, .null, .null, .null, .null, .null, .null, .null, .int 0, .null, .null, .null, .int 0] σ σ1 := hR
  refine z_aload_n C d_M_init_30 rfl ?_
  refine z_bipush C d_M_init_31 (by decide) ?_
  refine m_newi C hR hex 5 36 (by decide) rfl rfl (by decide) rfl (by decide) (by decide) d_M_init_33 tw_fl_M_24 rfl rfl (tk_M 5 (by decide)) (fun _ => rfl) (fun _ => rfl) d_M_init_35 (fun q5 σ1 hR => ?_)
  have hR : RI cI cZ cJ _ m0 _ [.ref q0, iv 1, .ref q2, .ref q3, .int 0, .ref q5, .null, .null, .null, .null, .null, .null, .null, .null, .null, .int 0, .null, .null, .null, .null, .null, .null, .null, .int 0, .null, .null, .null, .int 0] σ σ1 := hR
  refine z_aload_n C d_M_init_38 rfl ?_
  refine z_bipush C d_M_init_39 (by decide) ?_
  refine m_newi C hR hex 6 36 (by decide) rfl rfl (by decide) rfl (by decide) (by decide) d_M_init_41 tw_fl_M_27 rfl rfl (tk_M 6 (by decide)) (fun _ => rfl) (fun _ => rfl) d_M_init_43 (fun q6 σ1 hR => ?_)
  have hR : RI cI cZ cJ _ m0 _ [.ref q0, iv 1, .ref q2, .ref q3, .int 0, .ref q5, .ref q6, .null, .null, .null, .null, .null, .null, .null, .null, .int 0, .null, .null, .null, .null, .null, .null, .null, .int 0, .null, .null, .null, .int 0] σ σ1 := hR
  refine z_aload_n C d_M_init_46 rfl ?_
  refine z_bipush C d_M_init_47 (by decide) ?_
  refine m_newi C hR hex 7 36 (by decide) rfl rfl (by decide) rfl (by decide) (by decide) d_M_init_49 tw_fl_M_30 rfl rfl (tk_M 7 (by decide)) (fun _ => rfl) (fun _ => rfl) d_M_init_51 (fun q7 σ1 hR => ?_)
  have hR : RI cI cZ cJ _ m0 _ [.ref q0, iv 1, .ref q2, .ref q3, .int 0, .ref q5, .ref q6, .ref q7, .null, .null, .null, .null, .null, .null, .null, .int 0, .null, .null, .null, .null, .null, .null, .null, .int 0, .null, .null, .null, .int 0] σ σ1 := hR
  refine z_aload_n C d_M_init_54 rfl ?_
  refine z_bipush C d_M_init_55 (by decide) ?_
  refine m_newi C hR hex 8 36 (by decide) rfl rfl (by decide) rfl (by decide) (by decide) d_M_init_57 tw_fl_M_33 rfl rfl (tk_M 8 (by decide)) (fun _ => rfl) (fun _ => rfl) d_M_init_59 (fun q8 σ1 hR => ?_)
  have hR : RI cI cZ cJ _ m0 _ [.ref q0, iv 1, .ref q2, .ref q3, .int 0, .ref q5, .ref q6, .ref q7, .ref q8, .null, .null, .null, .null, .null, .null, .int 0, .null, .null, .null, .null, .null, .null, .null, .int 0, .null, .null, .null, .int 0] σ σ1 := hR
  refine z_aload_n C d_M_init_62 rfl ?_
  refine z_sipush C d_M_init_63 (by decide) ?_
  refine m_newi C hR hex 9 144 (by decide) rfl rfl (by decide) rfl (by decide) (by decide) d_M_init_66 tw_fl_M_36 rfl rfl (tk_M 9 (by decide)) (fun _ => rfl) (fun _ => rfl) d_M_init_68 (fun q9 σ1 hR => ?_)
  have hR : RI cI cZ cJ _ m0 _ [.ref q0, iv 1, .ref q2, .ref q3, .int 0, .ref q5, .ref q6, .ref q7, .ref q8, .ref q9, .null, .null, .null, .null, .null, .int 0, .null, .null, .null, .null, .null, .null, .null, .int 0, .null, .null, .null, .int 0] σ σ1 := hR
  refine z_aload_n C d_M_init_71 rfl ?_
  refine z_sipush C d_M_init_72 (by decide) ?_
  refine m_newz C hR hex 10 144 (by decide) rfl rfl (by decide) rfl (by decide) (by decide) d_M_init_75 tw_fl_M_39 rfl rfl (tk_M 10 (by decide)) (fun _ => rfl) (fun _ => rfl) d_M_init_77 (fun q10 σ1 hR => ?_)
  have hR : RI cI cZ cJ _ m0 _ [.ref q0, iv 1, .ref q2, .ref q3, .int 0, .ref q5, .ref q6, .ref q7, .ref q8, .ref q9, .ref q10, .null, .null, .null, .null, .int 0, .null, .null, .null, .null, .null, .null, .null, .int 0, .null, .null, .null, .int 0] σ σ1 := hR
  refine z_aload_n C d_M_init_80 rfl ?_
  refine z_bipush C d_M_init_81 (by decide) ?_
  refine m_newi C hR hex 11 36 (by decide) rfl rfl (by decide) rfl (by decide) (by decide) d_M_init_83 tw_fl_M_42 rfl rfl (tk_M 11 (by decide)) (fun _ => rfl) (fun _ => rfl) d_M_init_85 (fun q11 σ1 hR => ?_)
  have hR : RI cI cZ cJ _ m0 _ [.ref q0, iv 1, .ref q2, .ref q3, .int 0, .ref q5, .ref q6, .ref q7, .ref q8, .ref q9, .ref q10, .ref q11, .null, .null, .null, .int 0, .null, .null, .null, .null, .null, .null, .null, .int 0, .null, .null, .null, .int 0] σ σ1 := hR
  refine z_aload_n C d_M_init_88 rfl ?_
  refine z_bipush C d_M_init_89 (by decide) ?_
  refine m_newi C hR hex 12 36 (by decide) rfl rfl (by decide) rfl (by decide) (by decide) d_M_init_91 tw_fl_M_45 rfl rfl (tk_M 12 (by decide)) (fun _ => rfl) (fun _ => rfl) d_M_init_93 (fun q12 σ1 hR => ?_)
  have hR : RI cI cZ cJ _ m0 _ [.ref q0, iv 1, .ref q2, .ref q3, .int 0, .ref q5, .ref q6, .ref q7, .ref q8, .ref q9, .ref q10, .ref q11, .ref q12, .null, .null, .int 0, .null, .null, .null, .null, .null, .null, .null, .int 0, .null, .null, .null, .int 0] σ σ1 := hR
  refine z_aload_n C d_M_init_96 rfl ?_
  refine z_bipush C d_M_init_97 (by decide) ?_
  refine m_newi C hR hex 13 36 (by decide) rfl rfl (by decide) rfl (by decide) (by decide) d_M_init_99 tw_fl_M_48 rfl rfl (tk_M 13 (by decide)) (fun _ => rfl) (fun _ => rfl) d_M_init_101 (fun q13 σ1 hR => ?_)
  have hR : RI cI cZ cJ _ m0 _ [.ref q0, iv 1, .ref q2, .ref q3, .int 0, .ref q5, .ref q6, .ref q7, .ref q8, .ref q9, .ref q10, .ref q11, .ref q12, .ref q13, .null, .int 0, .null, .null, .null, .null, .null, .null, .null, .int 0, .null, .null, .null, .int 0] σ σ1 := hR
  refine z_aload_n C d_M_init_104 rfl ?_
  refine z_bipush C d_M_init_105 (by decide) ?_
  refine m_newi C hR hex 14 36 (by decide) rfl rfl (by decide) rfl (by decide) (by decide) d_M_init_107 tw_fl_M_51 rfl rfl (tk_M 14 (by decide)) (fun _ => rfl) (fun _ => rfl) d_M_init_109 (fun q14 σ1 hR => ?_)
  have hR : RI cI cZ cJ _ m0 _ [.ref q0, iv 1, .ref q2, .ref q3, .int 0, .ref q5, .ref q6, .ref q7, .ref q8, .ref q9, .ref q10, .ref q11, .ref q12, .ref q13, .ref q14, .int 0, .null, .null, .null, .null, .null, .null, .null, .int 0, .null, .null, .null, .int 0] σ σ1 := hR
  refine z_aload_n C d_M_init_112 rfl ?_
  refine z_bipush C d_M_init_113 (by decide) ?_
  refine m_newi C hR hex 16 100 (by decide) rfl rfl (by decide) rfl (by decide) (by decide) d_M_init_115 tw_fl_M_54 rfl rfl (tk_M 16 (by decide)) (fun _ => rfl) (fun _ => rfl) d_M_init_117 (fun q16 σ1 hR => ?_)
  have hR : RI cI cZ cJ _ m0 _ [.ref q0, iv 1, .ref q2, .ref q3, .int 0, .ref q5, .ref q6, .ref q7, .ref q8, .ref q9, .ref q10, .ref q11, .ref q12, .ref q13, .ref q14, .int 0, .ref q16, .null, .null, .null, .null, .null, .null, .int 0, .null, .null, .null, .int 0] σ σ1 := hR
  refine z_aload_n C d_M_init_120 rfl ?_
  refine z_bipush C d_M_init_121 (by decide) ?_
  refine m_newi C hR hex 17 100 (by decide) rfl rfl (by decide) rfl (by decide) (by decide) d_M_init_123 tw_fl_M_57 rfl rfl (tk_M 17 (by decide)) (fun _ => rfl) (fun _ => rfl) d_M_init_125 (fun q17 σ1 hR => ?_)
  have hR : RI cI cZ cJ _ m0 _ [.ref q0, iv 1, .ref q2, .ref q3, .int 0, .ref q5, .ref q6, .ref q7, .ref q8, .ref q9, .ref q10, .ref q11, .ref q12, .ref q13, .ref q14, .int 0, .ref q16, .ref q17, .null, .null, .null, .null, .null, .int 0, .null, .null, .null, .int 0] σ σ1 := hR
  refine z_aload_n C d_M_init_128 rfl ?_
  refine z_bipush C d_M_init_129 (by decide) ?_
  refine m_newi C hR hex 18 100 (by decide) rfl rfl (by decide) rfl (by decide) (by decide) d_M_init_131 tw_fl_M_60 rfl rfl (tk_M 18 (by decide)) (fun _ => rfl) (fun _ => rfl) d_M_init_133 (fun q18 σ1 hR => ?_)
  have hR : RI cI cZ cJ _ m0 _ [.ref q0, iv 1, .ref q2, .ref q3, .int 0, .ref q5, .ref q6, .ref q7, .ref q8, .ref q9, .ref q10, .ref q11, .ref q12, .ref q13, .ref q14, .int 0, .ref q16, .ref q17, .ref q18, .null, .null, .null, .null, .int 0, .null, .null, .null, .int 0] σ σ1 := hR
  refine z_aload_n C d_M_init_136 rfl ?_
  refine z_bipush C d_M_init_137 (by decide) ?_
  refine m_newi C hR hex 19 100 (by decide) rfl rfl (by decide) rfl (by decide) (by decide) d_M_init_139 tw_fl_M_63 rfl rfl (tk_M 19 (by decide)) (fun _ => rfl) (fun _ => rfl) d_M_init_141 (fun q19 σ1 hR => ?_)
  have hR : RI cI cZ cJ _ m0 _ [.ref q0, iv 1, .ref q2, .ref q3, .int 0, .ref q5, .ref q6, .ref q7, .ref q8, .ref q9, .ref q10, .ref q11, .ref q12, .ref q13, .ref q14, .int 0, .ref q16, .ref q17, .ref q18, .ref q19, .null, .null, .null, .int 0, .null, .null, .null, .int 0] σ σ1 := hR
  refine z_aload_n C d_M_init_144 rfl ?_
  refine z_sipush C d_M_init_145 (by decide) ?_
  refine m_newi C hR hex 20 400 (by decide) rfl rfl (by decide) rfl (by decide) (by decide) d_M_init_148 tw_fl_M_66 rfl rfl (tk_M 20 (by decide)) (fun _ => rfl) (fun _ => rfl) d_M_init_150 (fun q20 σ1 hR => ?_)
  have hR : RI cI cZ cJ _ m0 _ [.ref q0, iv 1, .ref q2, .ref q3, .int 0, .ref q5, .ref q6, .ref q7, .ref q8, .ref q9, .ref q10, .ref q11, .ref q12, .ref q13, .ref q14, .int 0, .ref q16, .ref q17, .ref q18, .ref q19, .ref q20, .null, .null, .int 0, .null, .null, .null, .int 0] σ σ1 := hR
  refine z_aload_n C d_M_init_153 rfl ?_
  refine z_sipush C d_M_init_154 (by decide) ?_
  refine m_newz C hR hex 21 400 (by decide) rfl rfl (by decide) rfl (by decide) (by decide) d_M_init_157 tw_fl_M_69 rfl rfl (tk_M 21 (by decide)) (fun _ => rfl) (fun _ => rfl) d_M_init_159 (fun q21 σ1 hR => ?_)
  have hR : RI cI cZ cJ _ m0 _ [.ref q0, iv 1, .ref q2, .ref q3, .int 0, .ref q5, .ref q6, .ref q7, .ref q8, .ref q9, .ref q10, .ref q11, .ref q12, .ref q13, .ref q14, .int 0, .ref q16, .ref q17, .ref q18, .ref q19, .ref q20, .ref q21, .null, .int 0, .null, .null, .null, .int 0] σ σ1 := hR
  refine z_aload_n C d_M_init_162 rfl ?_
  refine z_sipush C d_M_init_163 (by decide) ?_
  refine m_newl C hR hex 22 400 (by decide) rfl rfl (by decide) rfl (by decide) (by decide) d_M_init_166 tw_fl_M_72 rfl rfl (tk_M 22 (by decide)) (fun _ => rfl) (fun _ => rfl) d_M_init_168 (fun q22 σ1 hR => ?_)
  have hR : RI cI cZ cJ _ m0 _ [.ref q0, iv 1, .ref q2, .ref q3, .int 0, .ref q5, .ref q6, .ref q7, .ref q8, .ref q9, .ref q10, .ref q11, .ref q12, .ref q13, .ref q14, .int 0, .ref q16, .ref q17, .ref q18, .ref q19, .ref q20, .ref q21, .ref q22, .int 0, .null, .null, .null, .int 0] σ σ1 := hR
  refine z_aload_n C d_M_init_171 rfl ?_
  refine z_bipush C d_M_init_172 (by decide) ?_
  refine m_newi C hR hex 24 36 (by decide) rfl rfl (by decide) rfl (by decide) (by decide) d_M_init_174 tw_fl_M_76 rfl rfl (tk_M 24 (by decide)) (fun _ => rfl) (fun _ => rfl) d_M_init_176 (fun q24 σ1 hR => ?_)
  have hR : RI cI cZ cJ _ m0 _ [.ref q0, iv 1, .ref q2, .ref q3, .int 0, .ref q5, .ref q6, .ref q7, .ref q8, .ref q9, .ref q10, .ref q11, .ref q12, .ref q13, .ref q14, .int 0, .ref q16, .ref q17, .ref q18, .ref q19, .ref q20, .ref q21, .ref q22, .int 0, .ref q24, .null, .null, .int 0] σ σ1 := hR
  refine z_aload_n C d_M_init_179 rfl ?_
  refine z_bipush C d_M_init_180 (by decide) ?_
  refine m_newi C hR hex 25 36 (by decide) rfl rfl (by decide) rfl (by decide) (by decide) d_M_init_182 tw_fl_M_79 rfl rfl (tk_M 25 (by decide)) (fun _ => rfl) (fun _ => rfl) d_M_init_184 (fun q25 σ1 hR => ?_)
  have hR : RI cI cZ cJ _ m0 _ [.ref q0, iv 1, .ref q2, .ref q3, .int 0, .ref q5, .ref q6, .ref q7, .ref q8, .ref q9, .ref q10, .ref q11, .ref q12, .ref q13, .ref q14, .int 0, .ref q16, .ref q17, .ref q18, .ref q19, .ref q20, .ref q21, .ref q22, .int 0, .ref q24, .ref q25, .null, .int 0] σ σ1 := hR
  refine z_aload_n C d_M_init_187 rfl ?_
  refine z_sipush C d_M_init_188 (by decide) ?_
  refine m_newl C hR hex 26 144 (by decide) rfl rfl (by decide) rfl (by decide) (by decide) d_M_init_191 tw_fl_M_82 rfl rfl (tk_M 26 (by decide)) (fun _ => rfl) (fun _ => rfl) d_M_init_193 (fun q26 σ1 hR => ?_)
  have hR : RI cI cZ cJ _ m0 _ [.ref q0, iv 1, .ref q2, .ref q3, .int 0, .ref q5, .ref q6, .ref q7, .ref q8, .ref q9, .ref q10, .ref q11, .ref q12, .ref q13, .ref q14, .int 0, .ref q16, .ref q17, .ref q18, .ref q19, .ref q20, .ref q21, .ref q22, .int 0, .ref q24, .ref q25, .ref q26, .int 0] σ σ1 := hR
  have hall : ∀ f, marr f = true → (dadd (dadd (dadd (dadd (dadd (dadd (dadd (dadd (dadd (dadd (dadd (dadd (dadd (dadd (dadd (dadd (dadd (dadd (dadd (dadd (dadd (dadd (dadd (fun _ => false) 0) 2) 3) 5) 6) 7) 8) 9) 10) 11) 12) 13) 14) 16) 17) 18) 19) 20) 21) 22) 24) 25) 26) f = true := by
    intro f hf
    have hlt : f < 28 := by
      unfold marr at hf
      rw [Bool.and_eq_true, decide_eq_true_eq] at hf
      exact hf.2
    have hdec : ∀ f, f < 28 → marr f = true → (dadd (dadd (dadd (dadd (dadd (dadd (dadd (dadd (dadd (dadd (dadd (dadd (dadd (dadd (dadd (dadd (dadd (dadd (dadd (dadd (dadd (dadd (dadd (fun _ => false) 0) 2) 3) 5) 6) 7) 8) 9) 10) 11) 12) 13) 14) 16) 17) 18) 19) 20) 21) 22) 24) 25) 26) f = true := by decide
    exact hdec f hlt hf
  generalize hade : (nup (nup (nup (nup (nup (nup (nup (nup (nup (nup (nup (nup (nup (nup (nup (nup (nup (nup (nup (nup (nup (nup (nup (fun _ => 0) 0 q0) 2 q2) 3 q3) 5 q5) 6 q6) 7 q7) 8 q8) 9 q9) 10 q10) 11 q11) 12 q12) 13 q13) 14 q14) 16 q16) 17 q17) 18 q18) 19 q19) 20 q20) 21 q21) 22 q22) 24 q24) 25 q25) 26 q26) = ad at hR
  generalize hdde : (dadd (dadd (dadd (dadd (dadd (dadd (dadd (dadd (dadd (dadd (dadd (dadd (dadd (dadd (dadd (dadd (dadd (dadd (dadd (dadd (dadd (dadd (dadd (fun _ => false) 0) 2) 3) 5) 6) 7) 8) 9) 10) 11) 12) 13) 14) 16) 17) 18) 19) 20) 21) 22) 24) 25) 26) = dd at hR hall
  have hfs : mfs ad (sup z0 1 0 1) = [.ref q0, iv 1, .ref q2, .ref q3, .int 0, .ref q5, .ref q6, .ref q7, .ref q8, .ref q9, .ref q10, .ref q11, .ref q12, .ref q13, .ref q14, .int 0, .ref q16, .ref q17, .ref q18, .ref q19, .ref q20, .ref q21, .ref q22, .int 0, .ref q24, .ref q25, .ref q26, .int 0] := by
    subst hade
    rfl
  have hM : RM cI cZ cJ m0 ad (sup z0 1 0 1) σ1 := by
    refine ⟨?_, fun f hf => ?_, fun f g hf hg e => hR.2.2.2.1 f g (hall f hf) (hall g hg) e⟩
    · rw [hfs]
      exact hR.1
    · rw [mcell_n cI cZ cJ z0 0 1 (show f ≠ 1 from by rintro rfl; cases hf)]
      exact (hR.2.2.1 f (hall f hf)).1
  have hfr : ∀ a e, σ a = some e → a ≠ m0 → σ1 a = some e ∧ ¬ MA m0 ad a := by
    intro a e ha hne
    refine ⟨hR.2.2.2.2 a e ha hne, fun z => ?_⟩
    rcases z with z | ⟨f, hf, z⟩
    · exact hne z
    · exact (hR.2.2.1 f (hall f hf)).2 a e ha z
  have hM := mR.rf hM
  refine z_aload_n C d_M_init_196 rfl ?_
  refine m_get C hM in_M 0 (by decide) tw_fl_M_7 rfl rfl d_M_init_197 ?_
  refine z_iconst C d_M_init_200 ?_
  refine z_iconst C d_M_init_201 ?_
  refine m_iast C hM 0 rfl (n := 3) (fun _ => rfl) (0) (by omega) (by omega) (by decide) d_M_init_202 (fun σ hM => ?_)
  exact z_vret C d_M_init_203 (by decide) (by decide) (⟨rfl, ad, hM.1, fun a e ha hne => ⟨by rw [hM.2 a (hfr a e ha hne).2]; exact (hfr a e ha hne).1, (hfr a e ha hne).2⟩⟩)
