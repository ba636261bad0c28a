/-! what is made anew -/
theorem zput_zput (σ : zh) (a : Nat) (x y : va_E) : zput (zput σ a x) a y = zput σ a y := by
  funext b
  by_cases e : b = a
  · subst e; rw [zput_s, zput_s]
  · rw [zput_n e, zput_n e, zput_n e]
theorem zput_back {σ : zh} {a : Nat} {e e0 : va_E} (h : σ a = some e) : zput (zput σ a e0) a e = σ := by
  rw [zput_zput]
  funext b
  by_cases c : b = a
  · subst c; rw [zput_s, h]
  · rw [zput_n c]
theorem z_callINw {K : zC} {D : va_G} {cl : List vw_C} {A : Nat → Prop} {tys : List (ClassId × FieldType)} {F : State → Prop} {rm : Room} {cc : ByteArray} {own nm : String} {Ts : List Cond} {nL : Nat} {ret : Option FieldType} {Q : State → Prop} {cells slots pc : Nat} {σ : zh} {lv : List (Option Value)} {st : List Value} (C : zCx K D cl A tys F rm cc own nm Ts nL ret) {l : Launch} {y : MethodName} {ws ws' : List Cond} {rm2 : Room} {As : List Value} {post : Option Value → zh → Prop} {bytes : ByteArray} {maxL index n : Nat} (hKl : K.2.1 = l) {b : Nat} (hM : zM l D cl A tys F y ws rm2 (.ref b :: As) σ post) (hG0 : GoodIn Ts ws) (hw : ws = Cond.code y bytes maxL none :: ws') {host : String} (hli : ∀ s : State, F s → va_Nw (.methodLinkNest own index y host) s) (hins : Cond.instanceMethod y ∈ Ts) (hini : Cond.initialized y.cls ∈ Ts) (hnm : y.name = "<init>") (hd0 : y.cls ≠ "java/lang/invoke/MethodHandle" ∧ y.cls ≠ "java/lang/invoke/VarHandle" ∧ (parseMethodDescriptor y.desc).map (fun d => d.parameters.length) = some n) (hR2 : rm2.frames + 1 ≤ rm.frames ∧ 16 + (maxL + 11) + rm2.locals ≤ rm.locals) (hn : As.length = n) (hst : (st.map fun v => v.category).sum ≤ 16) (hf : cells + rm2.cells ≤ rm.cells ∧ slots + rm2.slots ≤ rm.slots) (hd : decode cc pc = .ok (.invokespecial index, 3)) (kk : ∀ (r : Option Value) (σ' : zh), post r σ' → zJ K D cl A nL Q (cells + rm2.cells) (slots + rm2.slots) (σ') (pc + 3) (lv) (r.toList ++ st)) : zJ K D cl A nL Q (cells) (slots) (σ) (pc) (lv) (As.reverse ++ .ref b :: st) := by
  obtain ⟨p, l, e, R, s, m, args, below, meth, c⟩ := K
  intro H locs ls hG hS hL
  have hR : R = rm := C.2.2.2.2.2.2.2.2.2.2.1
  have hml : c.maxLocals = nL := C.2.2.1
  subst hKl
  have hF : zFok F A := C.2.2.2.2.2.2.2.2.2.2.2.1
  have hp := fun vals => zPc_ok (vals := vals) hF C.2.2.2.2.2.2.2.2.1 C.2.2.2.2.2.2.2.1 C.2.2.2.2.2.2.2.2.2.1 hG hS
  have hcn := va_cnB (R := R) (host := host) n C.2.2.2.2.1 hG0 hw rfl rfl (hli s C.2.2.2.2.2.2.2.2.2.1) (C.2.2.2.2.1 _ hini) hd0 (by rw [hR]; exact ⟨hR2.1, by omega⟩)
  obtain ⟨⟨hrc, hrs, hfr, -, hws, hcw⟩, hcode, hini2, hy, hlen, hl⟩ := hcn
  have hK := back_of (W := 16) (R := R) (p := p) (e := e) (below := below) (sargs := args) (len := 3) (bytes := bytes) (maxL := maxL) (ret := none) hM (hp (.ref b :: As)).1 hrc hrs hfr (by rw [hR]; exact hR2.2) hws hcw (fun a' U hW => word_at hW (Or.inl (by first | rfl | simp [Cond.onTables, Cond.keeps, Cond.steady])) hini2)
  have hPc := (hp (.ref b :: As)).2
  refine z_run hS hL (a := (Value.ref b :: As).toArray) ?_ kk
  intro T hT X
  obtain ⟨v, vm₁, ⟨U', l2, c2, s2⟩, hW₁, X', ⟨g', mk, t, L, e1, e2, hq, h1, hL', h2, h3⟩, stp⟩ := va_callIN X C.1 (bytes := bytes) (maxL := maxL) C.2.2.2.1 hnm hl (C.2.2.2.2.1 _ hins) hcode hy hK (g := F0 m pc ls (As.reverse ++ .ref b :: st)) rfl (hL.1.trans hml.symm) (a := b) (argsL := As) (rest := st) (fun sig h => hn.trans (hlen sig h)) rfl (by show 2 * 0 + _ ≤ 16; omega) (by rw [C.2.1]; exact hd)
    (fun vm₁ hW₁ => ⟨by rw [hR]; exact hf.1, by rw [hR]; exact hf.2, hPc (T.setVm vm₁) hT hW₁⟩)
  dsimp only [Pt.U, Pt.locs, Pt.cells, Pt.slots] at X' e1 e2 h1 h2 h3 stp
  subst h1; subst h2; subst h3
  exact ⟨v, (T.setVm vm₁).calling g' mk (Value.ref b :: As).toArray, t, U', L, hT, X', hL', e1, e2, hq, stp⟩
section XC9
variable {l : Launch} {D : va_G} {A : Nat → Prop} {cI cZ cJ cB : ClassId} {X : Nat → Nat} {O : Nat → Prop} {bnd mkr : Nat → Option Nat} {g : Nat → Nat → Int} {σ : zh} {s : St} {kp wk : Nat → Int}
theorem NDk.mono2 {O' : Nat → Prop} {σ' : zh} {nd ka la : Nat} {sz : Int} {kf zf : Nat → Int} (h : NDk cI cZ O σ nd ka la sz kf zf) (hO : ∀ a, O a → O' a) (hh : ∀ b e, O b → σ b = some e → (∀ fs, e ≠ ob 2 fs) → σ' b = some e) : NDk cI cZ O' σ' nd ka la sz kf zf := by
  obtain ⟨k1, k2, k3, k4, k5⟩ := h
  exact ⟨⟨hO _ k1.1, hO _ k1.2.1, hO _ k1.2.2⟩, hh _ _ k1.1 k2 (fun _ h => (by cases h)), hh _ _ k1.2.1 k3 (fun _ h => (by cases h)), hh _ _ k1.2.2 k4 (fun _ h => (by cases h)), k5⟩
theorem xG.fr2 {O' : Nat → Prop} {σ' : zh} (hx : xG cI cZ cJ cB X O bnd mkr g s kp wk σ) (hO' : ∀ a, O a → O' a) (h : ∀ a e, O a → σ a = some e → σ' a = some e) : xG cI cZ cJ cB X O' bnd mkr g s kp wk σ' := by
  obtain ⟨hO, hX, h1, h2, h3, h4, h5, hB, hBf, hbn, hmk, hvl, hwk, hkp, hk⟩ := hx
  have tN : ∀ {nd ka la : Nat} {sz : Int} {kf zf : Nat → Int}, NDk cI cZ O σ nd ka la sz kf zf → NDk cI cZ O' σ' nd ka la sz kf zf := fun n => n.mono2 hO' (fun b e q1 q2 _ => h b e q1 q2)
  have tB : ∀ {b kd : Nat} {inj key con sc kept iw sz : Int} {kf zf : Nat → Int}, BB cI cZ X O σ b kd inj key con sc kept iw sz kf zf → BB cI cZ X O' σ' b kd inj key con sc kept iw sz kf zf := fun ⟨q1, nd, ka, la, q2, q3, q4⟩ => ⟨hO' _ q1, nd, ka, la, h _ _ q1 q2, tN q3, q4⟩
  refine ⟨⟨hO' _ hO.1, hO' _ hO.2.1, hO' _ hO.2.2.1, hO' _ hO.2.2.2.1, hO' _ hO.2.2.2.2.1, hO' _ hO.2.2.2.2.2⟩, h _ _ hO.1 hX, h _ _ hO.2.1 h1, h _ _ hO.2.2.1 h2, h _ _ hO.2.2.2.1 h3, h _ _ hO.2.2.2.2.1 h4, h _ _ hO.2.2.2.2.2 h5, ⟨tN hB.1, hB.2⟩, hBf, fun p hp => ?_, fun i hi => ?_, hvl, hwk, hkp, hk⟩
  · rcases hbn p hp with z | ⟨a, kd, con, sc, sz, kf, zf, z1, z2, z3⟩
    · exact Or.inl z
    · exact Or.inr ⟨a, kd, con, sc, sz, kf, zf, z1, tB z2, z3⟩
  · obtain ⟨a, kd, con, kept, iw, kf, zf, z1, z2, z3⟩ := hmk i hi
    exact ⟨a, kd, con, kept, iw, kf, zf, z1, tB z2, z3⟩
/-- a new, empty buffer -/
theorem xG.nbuf {O' : Nat → Prop} {σ' : zh} {nd ka la : Nat} (hx : xG cI cZ cJ cB X O bnd mkr g s kp wk σ) (hO' : ∀ a, O a → O' a) (n6 : O' nd ∧ O' ka ∧ O' la) (h : ∀ b e, O b → σ b = some e → (∀ fs, e ≠ ob 2 fs) → σ' b = some e) (fresh : ∀ b e, σ b = some e → b ≠ nd ∧ b ≠ ka ∧ b ≠ la) (h0 : σ' (X 0) = some (ob 2 (xfs (nup (nup (nup X 6 nd) 7 ka) 8 la) (sup s 4 0 0)))) (h6 : σ' nd = some (ob 1 [.ref ka, .ref la, iv 0])) (h7 : σ' ka = some (ia cI 4 (fun _ => 0))) (h8 : σ' la = some (ia cZ 4 (fun _ => 0))) (hne : ka ≠ la) : xG cI cZ cJ cB (nup (nup (nup X 6 nd) 7 ka) 8 la) O' bnd mkr (srow (srow g 2 (fun _ => 0)) 3 (fun _ => 0)) (sup s 4 0 0) kp wk σ' := by
  obtain ⟨hO, hX, h1, h2, h3, h4, h5, hB, hBf, hbn, hmk, hvl, hwk, hkp, hk⟩ := hx
  have tN : ∀ {nd ka la : Nat} {sz : Int} {kf zf : Nat → Int}, NDk cI cZ O σ nd ka la sz kf zf → NDk cI cZ O' σ' nd ka la sz kf zf := fun n => n.mono2 hO' h
  have tB : ∀ {b kd : Nat} {inj key con sc kept iw sz : Int} {kf zf : Nat → Int}, BB cI cZ X O σ b kd inj key con sc kept iw sz kf zf → BB cI cZ (nup (nup (nup X 6 nd) 7 ka) 8 la) O' σ' b kd inj key con sc kept iw sz kf zf := fun ⟨q1, nd, ka, la, q2, q3, q4⟩ => ⟨hO' _ q1, nd, ka, la, h _ _ q1 q2 (fun _ h => (by cases h)), tN q3, (fresh _ _ q3.2.1).1, (fresh _ _ q3.2.2.1).2.1, (fresh _ _ q3.2.2.1).2.2, (fresh _ _ q3.2.2.2.1).2.1, (fresh _ _ q3.2.2.2.1).2.2⟩
  refine ⟨⟨hO' _ hO.1, hO' _ hO.2.1, hO' _ hO.2.2.1, hO' _ hO.2.2.2.1, hO' _ hO.2.2.2.2.1, hO' _ hO.2.2.2.2.2⟩, h0, h _ _ hO.2.1 h1 (fun _ h => (by cases h)), h _ _ hO.2.2.1 h2 (fun _ h => (by cases h)), h _ _ hO.2.2.2.1 h3 (fun _ h => (by cases h)), h _ _ hO.2.2.2.2.1 h4 (fun _ h => (by cases h)), h _ _ hO.2.2.2.2.2 h5 (fun _ h => (by cases h)), ⟨⟨n6, h6, h7, h8, by show (0 : Int) ≤ 0 ∧ (0 : Int) ≤ 4; omega, fun _ => by show (0 : Int) ≤ 0 ∧ (0 : Int) ≤ 11; omega, fun _ => Or.inl rfl⟩, hne⟩, fun j hj => absurd hj (by show ¬ (j : Int) < 0; omega), fun p hp => ?_, fun i hi => ?_, hvl, hwk, hkp, hk⟩
  · rcases hbn p hp with z | ⟨a, kd, con, sc, sz, kf, zf, z1, z2, z3⟩
    · exact Or.inl z
    · exact Or.inr ⟨a, kd, con, sc, sz, kf, zf, z1, tB z2, z3⟩
  · obtain ⟨a, kd, con, kept, iw, kf, zf, z1, z2, z3⟩ := hmk i hi
    exact ⟨a, kd, con, kept, iw, kf, zf, z1, tB z2, z3⟩
/-- a new binding with needs of its own -/
theorem xP.bind (hI : Inv s) (hx : xG cI cZ cJ cB X O bnd mkr g s (fun q => kpt s q - 1) (fun _ => 0) σ) {s' : St} {σ' : zh} {p a nd ka la kd : Nat} {con sc sz : Int} {kf zf : Nat → Int} (hp : p < 36) (h5 : s 5 p = 0) (hold : ∀ b e, σ b = some e → σ' b = some e ∧ b ≠ a ∧ b ≠ nd ∧ b ≠ ka ∧ b ≠ la) (ha : σ' a = some (ob 0 [.ref kd, iv ((p / 12 : Nat) : Int), iv ((p % 12 : Nat) : Int), iv con, iv sc, .ref nd, iv (-1), iv 0])) (hn1 : σ' nd = some (ob 1 [.ref ka, .ref la, iv sz])) (hk1 : σ' ka = some (ia cI 4 kf)) (hl1 : σ' la = some (ia cZ 4 zf)) (r1 : 0 ≤ sz ∧ sz ≤ 4) (r2 : ∀ j, 0 ≤ kf j ∧ kf j ≤ 11) (r3 : ∀ j, zf j = 0 ∨ zf j = 1) (hs : ∀ f, f ≠ 5 → f ≠ 6 → s' f = s f) (hn : ∀ q, q ≠ p → s' 5 q = s 5 q ∧ s' 6 q = s 6 q) (hbk : BK X s' p kd con sc sz kf zf) : xP cI cZ cJ cB X O σ s' (zput σ' (X 2) (ra cB 36 (va_up bnd p (some a)))) := by
  have e11 : s 11 p = 0 := by
    apply Classical.byContradiction
    intro c
    have := (hI.si2 c).1
    omega
  have e12 : s 12 p = 0 := by
    apply Classical.byContradiction
    intro c
    have := (hI.re2 c).1
    omega
  have ekp : ∀ q, kpt s' q = kpt s q := fun q => by unfold kpt; rw [hs 11 (by decide) (by decide), hs 12 (by decide) (by decide)]
  have hx4 := hx.fr2 (O' := fun b => O b ∨ b = a ∨ b = nd ∨ b = ka ∨ b = la) (σ' := σ') (fun b h => Or.inl h) (fun b e _ q => (hold b e q).1)
  have hO2 := hx.1.2.2.1
  obtain ⟨b1, b2, b3, b4, b5⟩ := hx.2.2.2.2.2.2.2.1.1
  refine ⟨X, _, rfl, rfl, rfl, rfl, ⟨_, mkr, g, hx4.bnw (kp' := fun q => kpt s' q - 1) hp (fun f hf => hs f (by omega) (by omega)) (fun q hq hne => ⟨(hn q hne).1, (hn q hne).2, by rw [hs 7 (by decide) (by decide)], by rw [hs 8 (by decide) (by decide)], fun j _ => ⟨by rw [hs 9 (by decide) (by decide)], by rw [hs 10 (by decide) (by decide)]⟩, by show kpt s' q - 1 = kpt s q - 1; rw [ekp q]⟩) (fun q => ?_) (Or.inr ⟨a, kd, con, sc, sz, kf, zf, by simp [va_up], BB.off ⟨Or.inr (Or.inl rfl), nd, ka, la, ?_, ⟨⟨Or.inr (Or.inr (Or.inl rfl)), Or.inr (Or.inr (Or.inr (Or.inl rfl))), Or.inr (Or.inr (Or.inr (Or.inr rfl)))⟩, hn1, hk1, hl1, r1, r2, r3⟩, ?_⟩ hx4.2.2.2.1 xoff_ra, hbk⟩)⟩, fun b e q1 q2 => ?_⟩
  · have := hI.kp q
    have := hI.md
    rw [ekp q]
    omega
  · show σ' a = some (ob 0 [.ref kd, iv ((p / 12 : Nat) : Int), iv ((p % 12 : Nat) : Int), iv con, iv sc, .ref nd, iv (kpt s' p - 1), iv 0])
    rw [ha, ekp p, show kpt s p = 0 from by unfold kpt; omega]
    rfl
  · have f6 := (hold _ _ b2).2
    have f7 := (hold _ _ b3).2
    have f8 := (hold _ _ b4).2
    exact ⟨Ne.symm f6.2.1, Ne.symm f7.2.2.1, Ne.symm f8.2.2.1, Ne.symm f7.2.2.2, Ne.symm f8.2.2.2⟩
  · have q3 := hold b e q1
    refine ⟨?_, fun z => ?_⟩
    · rw [zput_n (fun z => q2 (by rw [z]; exact hO2))]
      exact q3.1
    · rcases z with z | z | z | z | z
      · exact q2 z
      · exact q3.2.1 z
      · exact q3.2.2.1 z
      · exact q3.2.2.2.1 z
      · exact q3.2.2.2.2 z
set_option maxRecDepth 100000 in
set_option maxHeartbeats 4000000 in
theorem cN_init {nd : Nat} (h0 : σ nd = some (ob 1 [.null, .null, .int 0])) : zM l D vwCl A (ztys cI cZ cJ cB) (zF A X) y_N_init ws_N_init (zroom 0 2 8) [.ref nd] σ (fun r σ' => r = none ∧ ∃ ka la, ka ≠ la ∧ nd ≠ ka ∧ nd ≠ la ∧ (∀ b x, σ b = some x → b ≠ ka ∧ b ≠ la) ∧ σ' nd = some (ob 1 [.ref ka, .ref la, iv 0]) ∧ σ' ka = some (ia cI 4 (fun _ => 0)) ∧ σ' la = some (ia cZ 4 (fun _ => 0)) ∧ ∀ b, b ≠ nd → b ≠ ka → b ≠ la → σ' b = σ b) := by
  refine zMet2 (zF_ok A X) (by decide) (Nat.le_of_ble_eq_true rfl) (fun K hKl C => ?_)
  refine z_aload_n C d_N_init_0 rfl ?_
  refine z_oinit C tw_ml_N_3 tw_im_oinit tw_co_oinit d_N_init_1 (by decide) (by decide) (by decide) ?_
  refine z_aload_n C d_N_init_4 rfl ?_
  refine z_iconst C d_N_init_5 ?_
  refine z_newi C 0 rfl tw_ac_int rfl 4 rfl (by decide) (by decide) (by decide) d_N_init_6 (fun ka hka => ?_)
  have hnk : nd ≠ ka := hka _ _ h0
  have u1 : (zput σ ka (ia cI 4 (fun _ => 0))) nd = some (ob 1 [.null, .null, .int 0]) := by rw [zput_n hnk]; exact h0
  refine z_putF C in_N t_N tk_N nm_N u1 rfl 0 (by decide) tw_fl_N_9 rfl rfl rfl (tk_N 0 (by decide)) rfl rfl (Nat.le_of_ble_eq_true rfl) d_N_init_8 ?_
  refine z_eq (σ' := zput (zput σ ka (ia cI 4 (fun _ => 0))) nd (ob 1 [.ref ka, .null, .int 0])) rfl rfl rfl ?_
  refine z_aload_n C d_N_init_11 rfl ?_
  refine z_iconst C d_N_init_12 ?_
  refine z_newz C 1 rfl tw_ac_boolean rfl 4 rfl (by decide) (by decide) (by decide) d_N_init_13 (fun la hla => ?_)
  have hnl : nd ≠ la := hla _ _ (zput_s _ _ _)
  have hkl : ka ≠ la := hla ka (ia cI 4 (fun _ => 0)) (by rw [zput_n (Ne.symm hnk), zput_s])
  have u2 : (zput (zput (zput σ ka (ia cI 4 (fun _ => 0))) nd (ob 1 [.ref ka, .null, .int 0])) la (ia cZ 4 (fun _ => 0))) nd = some (ob 1 [.ref ka, .null, .int 0]) := by rw [zput_n hnl, zput_s]
  refine z_putF C in_N t_N tk_N nm_N u2 rfl 1 (by decide) tw_fl_N_15 rfl rfl rfl (tk_N 1 (by decide)) rfl rfl (Nat.le_of_ble_eq_true rfl) d_N_init_15 ?_
  refine z_eq (σ' := zput (zput (zput (zput σ ka (ia cI 4 (fun _ => 0))) nd (ob 1 [.ref ka, .null, .int 0])) la (ia cZ 4 (fun _ => 0))) nd (ob 1 [.ref ka, .ref la, iv 0])) rfl rfl rfl ?_
  exact z_vret C d_N_init_18 (by decide) (by decide) (by
    refine ⟨rfl, ka, la, hkl, hnk, hnl, fun b x hb => ⟨hka b x hb, ?_⟩, zput_s _ _ _, ?_, ?_, fun b q1 q2 q3 => ?_⟩
    · by_cases c : b = nd
      · rw [c]; exact hnl
      · exact hla b x (by rw [zput_n c, zput_n (hka b x hb)]; exact hb)
    · rw [zput_n (Ne.symm hnk), zput_n hkl, zput_n (Ne.symm hnk), zput_s]
    · rw [zput_n (Ne.symm hnl), zput_s]
    · rw [zput_n q1, zput_n q3, zput_n q1, zput_n q2])
set_option maxRecDepth 100000 in
set_option maxHeartbeats 4000000 in
theorem cB_init {a kd nd : Nat} (inj key con sc : Int) (h0 : σ a = some (ob 0 [.null, .int 0, .int 0, .int 0, .int 0, .null, .int 0, .int 0])) : zM l D vwCl A (ztys cI cZ cJ cB) (zF A X) y_B_init ws_B_init (zroom 0 0 0) [.ref a, .ref kd, iv inj, iv key, iv con, iv sc, .ref nd] σ (fun r σ' => r = none ∧ σ' = zput σ a (ob 0 [.ref kd, iv inj, iv key, iv con, iv sc, .ref nd, iv (-1), iv 0])) := by
  refine zMet2 (zF_ok A X) (by decide) (Nat.le_of_ble_eq_true rfl) (fun K hKl C => ?_)
  refine z_aload_n C d_B_init_0 rfl ?_
  refine z_oinit C tw_ml_B_3 tw_im_oinit tw_co_oinit d_B_init_1 (by decide) (by decide) (by decide) ?_
  refine z_aload_n C d_B_init_4 rfl ?_
  refine z_aload_n C d_B_init_5 rfl ?_
  refine z_putF C in_B t_B tk_B nm_B h0 rfl 0 (by decide) tw_fl_B_9 rfl rfl rfl (tk_B 0 (by decide)) rfl rfl (Nat.le_of_ble_eq_true rfl) d_B_init_6 ?_
  refine z_eq (σ' := zput σ a (ob 0 [.ref kd, .int 0, .int 0, .int 0, .int 0, .null, .int 0, .int 0])) rfl rfl rfl ?_
  refine z_aload_n C d_B_init_9 rfl ?_
  refine z_iload_n C d_B_init_10 rfl ?_
  refine z_putF C in_B t_B tk_B nm_B (zput_s _ _ _) rfl 1 (by decide) tw_fl_B_15 rfl rfl rfl (tk_B 1 (by decide)) rfl rfl (Nat.le_of_ble_eq_true rfl) d_B_init_11 ?_
  refine z_eq (σ' := zput σ a (ob 0 [.ref kd, iv inj, .int 0, .int 0, .int 0, .null, .int 0, .int 0])) rfl rfl (zput_zput _ _ _ _) ?_
  refine z_aload_n C d_B_init_14 rfl ?_
  refine z_iload_n C d_B_init_15 rfl ?_
  refine z_putF C in_B t_B tk_B nm_B (zput_s _ _ _) rfl 2 (by decide) tw_fl_B_19 rfl rfl rfl (tk_B 2 (by decide)) rfl rfl (Nat.le_of_ble_eq_true rfl) d_B_init_16 ?_
  refine z_eq (σ' := zput σ a (ob 0 [.ref kd, iv inj, iv key, .int 0, .int 0, .null, .int 0, .int 0])) rfl rfl (zput_zput _ _ _ _) ?_
  refine z_aload_n C d_B_init_19 rfl ?_
  refine z_iload C d_B_init_20 rfl ?_
  refine z_putF C in_B t_B tk_B nm_B (zput_s _ _ _) rfl 3 (by decide) tw_fl_B_22 rfl rfl rfl (tk_B 3 (by decide)) rfl rfl (Nat.le_of_ble_eq_true rfl) d_B_init_22 ?_
  refine z_eq (σ' := zput σ a (ob 0 [.ref kd, iv inj, iv key, iv con, .int 0, .null, .int 0, .int 0])) rfl rfl (zput_zput _ _ _ _) ?_
  refine z_aload_n C d_B_init_25 rfl ?_
  refine z_iload C d_B_init_26 rfl ?_
  refine z_putF C in_B t_B tk_B nm_B (zput_s _ _ _) rfl 4 (by decide) tw_fl_B_25 rfl rfl rfl (tk_B 4 (by decide)) rfl rfl (Nat.le_of_ble_eq_true rfl) d_B_init_28 ?_
  refine z_eq (σ' := zput σ a (ob 0 [.ref kd, iv inj, iv key, iv con, iv sc, .null, .int 0, .int 0])) rfl rfl (zput_zput _ _ _ _) ?_
  refine z_aload_n C d_B_init_31 rfl ?_
  refine z_aload C d_B_init_32 rfl ?_
  refine z_putF C in_B t_B tk_B nm_B (zput_s _ _ _) rfl 5 (by decide) tw_fl_B_28 rfl rfl rfl (tk_B 5 (by decide)) rfl rfl (Nat.le_of_ble_eq_true rfl) d_B_init_34 ?_
  refine z_eq (σ' := zput σ a (ob 0 [.ref kd, iv inj, iv key, iv con, iv sc, .ref nd, .int 0, .int 0])) rfl rfl (zput_zput _ _ _ _) ?_
  refine z_aload_n C d_B_init_37 rfl ?_
  refine z_iconst C d_B_init_38 ?_
  refine z_put C in_B t_B tk_B nm_B (zput_s _ _ _) rfl 6 (by decide) tw_fl_B_32 rfl rfl (tk_B 6 (by decide)) rfl rfl (Nat.le_of_ble_eq_true rfl) d_B_init_39 ?_
  refine z_eq (σ' := zput σ a (ob 0 [.ref kd, iv inj, iv key, iv con, iv sc, .ref nd, iv (-1), iv 0])) rfl rfl (zput_zput _ _ _ _) ?_
  exact z_vret C d_B_init_42 (by decide) (by decide) (⟨rfl, rfl⟩)
end XC9
