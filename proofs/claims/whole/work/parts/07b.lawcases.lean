section LC
variable {l : Launch} {K : zC} {D : va_G} {A : Nat → Prop} {cI cZ cJ cB : ClassId} {X : Nat → Nat} {O : Nat → Prop} {m0 : Nat} {ad : Nat → Nat} {s : St} {σ : zh} {Q : State → Prop} {cells slots b L n : Nat} {xs : Nat → Int32} {nm9 : String}
def LNX (K : zC) (D : va_G) (A : Nat → Prop) (cI cZ cJ cB : ClassId) (Q : State → Prop) (cells slots b n m0 : Nat) (ad : Nat → Nat) (X : Nat → Nat) : Prop := ∀ (X' : Nat → Nat) (O' : Nat → Prop) (s' : St) (σ' : zh), (X' 0 = X 0 ∧ X' 9 = X 9 ∧ X' 10 = X 10 ∧ X' 11 = X 11) → LWd cI cZ cJ cB X' O' m0 ad s' σ' → zJ K D vwCl A 4 Q (cells + 4) (slots + 19) σ' 636 [some (.ref b), some (.ref (X 0)), some (.ref m0), some (iv ((4 * n : Nat) : Int))] []
def RC (s : St) (i k v : Int) : Prop := (v = -1 ∧ (i < 0 ∨ s 1 0 ≤ i ∨ k < 0 ∨ 11 < k)) ∨ ((0 ≤ i ∧ i < s 1 0 ∧ 0 ≤ k ∧ k ≤ 11) ∧ ∃ N : Nat, clo s (pr i k) N ∧ v = ((ksm N 36 : Nat) : Int))
theorem RC.eq {s : St} {i k v w : Int} (h : RC s i k v) (h2 : RC s i k w) : v = w := by
  rcases h with ⟨a1, a2⟩ | ⟨a1, N, a2, a3⟩
  · rcases h2 with ⟨b1, b2⟩ | ⟨b1, N2, b2, b3⟩
    · rw [a1, b1]
    · omega
  · rcases h2 with ⟨b1, b2⟩ | ⟨b1, N2, b2, b3⟩
    · omega
    · rw [a3, b3, a2.eq b2]
theorem RC.of {s : St} {i k : Int} {r : Option Value} (h : (r = some (iv (-1)) ∧ (i < 0 ∨ s 1 0 ≤ i ∨ k < 0 ∨ 11 < k)) ∨ ((0 ≤ i ∧ i < s 1 0 ∧ 0 ≤ k ∧ k ≤ 11) ∧ ∃ N : Nat, clo s (pr i k) N ∧ r = some (iv ((ksm N 36 : Nat) : Int)))) : ∃ v, r = some (iv v) ∧ RC s i k v := by
  rcases h with ⟨h1, h2⟩ | ⟨h1, N, h2, h3⟩
  · exact ⟨-1, h1, Or.inl ⟨rfl, h2⟩⟩
  · exact ⟨_, h3, Or.inr ⟨h1, N, h2, rfl⟩⟩
set_option maxRecDepth 100000 in
set_option maxHeartbeats 4000000 in
theorem law_0 (hKl : K.2.1 = l) (C : zCx K D vwCl A (ztys cI cZ cJ cB) (zF A X) room_1 c_L_law "InjectorTreeLaw" nm9 zw 4 (some .boolean)) (hS : zSc K A b L xs) (hn : 4 * n + 4 ≤ L) (hL : L ≤ 2048) (hc : cells + 4 ≤ 600000 ∧ slots + 19 ≤ 7302250) (hw : LWd cI cZ cJ cB X O m0 ad s σ) (nx : LNX K D A cI cZ cJ cB Q cells slots b n m0 ad X) : zJ K D vwCl A 4 Q cells slots σ 116 [some (.ref b), some (.ref (X 0)), some (.ref m0), some (iv ((4 * n : Nat) : Int))] [] := by
  obtain ⟨hRM, ⟨bnd, mkr, g, hx⟩, hdis, hIV⟩ := id hw
  have hI := hIV.1
  have hX := hx.2.1
  have r1 := z32r (xs (4 * n + 1))
  refine z_aload_n C d_L_law_116 rfl ?_
  refine z_aload_n C d_L_law_117 rfl ?_
  refine z_iload_n C d_L_law_118 rfl ?_
  refine z_iconst C d_L_law_119 ?_
  refine z_iadd C d_L_law_120 ?_
  refine z_sld C hS (4 * n + 1) (by omega) (by omega) (by omega) d_L_law_121 ?_
  refine z_callV C hKl (cX_child (xs (4 * n + 1)).toInt hI hx r1) (zgood (fun _ h => h) tw_co_X_child) rfl (hX) rfl tw_ml_L_13 tw_im_X_child tw_se_X_child tw_in_X pd_X_child (by decide) rfl (Nat.le_of_ble_eq_true rfl) (by constructor <;> (simp only [zroom, room_1]; omega)) d_L_law_122 (fun r σ1 hq => ?_)
  obtain ⟨rfl, hP⟩ := hq
  have hRM1 := hw.rm1 hP
  refine z_aload_n C d_L_law_125 rfl ?_
  refine z_aload_n C d_L_law_126 rfl ?_
  refine z_iload_n C d_L_law_127 rfl ?_
  refine z_iconst C d_L_law_128 ?_
  refine z_iadd C d_L_law_129 ?_
  refine z_sld C hS (4 * n + 1) (by omega) (by omega) (by omega) d_L_law_130 ?_
  refine z_callV C hKl (cM_child (xs (4 * n + 1)).toInt (zF_ok A X) hI hRM1 r1) (zgood (fun _ h => h) tw_co_M_child) rfl (hRM1.1) rfl tw_ml_L_17 tw_im_M_child tw_se_M_child tw_in_M pd_M_child (by decide) rfl (Nat.le_of_ble_eq_true rfl) (by constructor <;> (simp only [zroom, room_1]; omega)) d_L_law_131 (fun r σ2 hq => ?_)
  obtain ⟨rfl, hM2⟩ := hq
  refine z_icmp_same C 636 d_L_law_134 (by decide) ?_
  obtain ⟨X', O', hE, hw2⟩ := hw.step hP hM2 (iv_child hIV _)
  exact z_widen (by simp only [zroom]; omega) (by simp only [zroom]; omega) (nx X' O' _ _ hE hw2)
set_option maxRecDepth 100000 in
set_option maxHeartbeats 4000000 in
theorem law_1 (hKl : K.2.1 = l) (C : zCx K D vwCl A (ztys cI cZ cJ cB) (zF A X) room_1 c_L_law "InjectorTreeLaw" nm9 zw 4 (some .boolean)) (hS : zSc K A b L xs) (hn : 4 * n + 4 ≤ L) (hL : L ≤ 2048) (hc : cells + 4 ≤ 600000 ∧ slots + 19 ≤ 7302250) (hw : LWd cI cZ cJ cB X O m0 ad s σ) (nx : LNX K D A cI cZ cJ cB Q cells slots b n m0 ad X) : zJ K D vwCl A 4 Q cells slots σ 139 [some (.ref b), some (.ref (X 0)), some (.ref m0), some (iv ((4 * n : Nat) : Int))] [] := by
  obtain ⟨hRM, ⟨bnd, mkr, g, hx⟩, hdis, hIV⟩ := id hw
  have hI := hIV.1
  have hX := hx.2.1
  have r1 := z32r (xs (4 * n + 1))
  have r2 := z32r (xs (4 * n + 2))
  refine z_aload_n C d_L_law_139 rfl ?_
  refine z_aload_n C d_L_law_140 rfl ?_
  refine z_iload_n C d_L_law_141 rfl ?_
  refine z_iconst C d_L_law_142 ?_
  refine z_iadd C d_L_law_143 ?_
  refine z_sld C hS (4 * n + 1) (by omega) (by omega) (by omega) d_L_law_144 ?_
  refine z_aload_n C d_L_law_145 rfl ?_
  refine z_iload_n C d_L_law_146 rfl ?_
  refine z_iconst C d_L_law_147 ?_
  refine z_iadd C d_L_law_148 ?_
  refine z_sld C hS (4 * n + 2) (by omega) (by omega) (by omega) d_L_law_149 ?_
  refine z_if_eq C 157 (by omega) d_L_law_150 (by decide) (fun h150 => ?_) (fun h150 => ?_)
  · refine z_iconst C d_L_law_157 ?_
    refine z_callV C hKl (cX_need (xs (4 * n + 1)).toInt 0 hI hx r1 (Or.inl rfl)) (zgood (fun _ h => h) tw_co_X_need) rfl (hX) rfl tw_ml_L_18 tw_im_X_need tw_se_X_need tw_in_X pd_X_need (by decide) rfl (Nat.le_of_ble_eq_true rfl) (by constructor <;> (simp only [zroom, room_1]; omega)) d_L_law_158 (fun r σ1 hq => ?_)
    obtain ⟨rfl, hP⟩ := hq
    have hRM1 := hw.rm1 hP
    refine z_aload_n C d_L_law_161 rfl ?_
    refine z_aload_n C d_L_law_162 rfl ?_
    refine z_iload_n C d_L_law_163 rfl ?_
    refine z_iconst C d_L_law_164 ?_
    refine z_iadd C d_L_law_165 ?_
    refine z_sld C hS (4 * n + 1) (by omega) (by omega) (by omega) d_L_law_166 ?_
    refine z_aload_n C d_L_law_167 rfl ?_
    refine z_iload_n C d_L_law_168 rfl ?_
    refine z_iconst C d_L_law_169 ?_
    refine z_iadd C d_L_law_170 ?_
    refine z_sld C hS (4 * n + 2) (by omega) (by omega) (by omega) d_L_law_171 ?_
    refine z_if_eq C 179 (by omega) d_L_law_172 (by decide) (fun h172 => ?_) (fun h172 => absurd h172 (by omega))
    refine z_iconst C d_L_law_179 ?_
    refine z_callV C hKl (cM_need (xs (4 * n + 1)).toInt 0 (zF_ok A X) hI hRM1 r1 (Or.inl rfl)) (zgood (fun _ h => h) tw_co_M_need) rfl (hRM1.1) rfl tw_ml_L_22 tw_im_M_need tw_se_M_need tw_in_M pd_M_need (by decide) rfl (Nat.le_of_ble_eq_true rfl) (by constructor <;> (simp only [zroom, room_1]; omega)) d_L_law_180 (fun r σ2 hq => ?_)
    obtain ⟨rfl, hM2⟩ := hq
    refine z_icmp_same C 636 d_L_law_183 (by decide) ?_
    obtain ⟨X', O', hE, hw2⟩ := hw.step hP hM2 (iv_need hIV _ (Or.inl rfl))
    exact z_widen (by simp only [zroom]; omega) (by simp only [zroom]; omega) (nx X' O' _ _ hE hw2)
  · refine z_iconst C d_L_law_153 ?_
    refine z_goto C 158 d_L_law_154 (by decide) ?_
    refine z_callV C hKl (cX_need (xs (4 * n + 1)).toInt 1 hI hx r1 (Or.inr rfl)) (zgood (fun _ h => h) tw_co_X_need) rfl (hX) rfl tw_ml_L_18 tw_im_X_need tw_se_X_need tw_in_X pd_X_need (by decide) rfl (Nat.le_of_ble_eq_true rfl) (by constructor <;> (simp only [zroom, room_1]; omega)) d_L_law_158 (fun r σ1 hq => ?_)
    obtain ⟨rfl, hP⟩ := hq
    have hRM1 := hw.rm1 hP
    refine z_aload_n C d_L_law_161 rfl ?_
    refine z_aload_n C d_L_law_162 rfl ?_
    refine z_iload_n C d_L_law_163 rfl ?_
    refine z_iconst C d_L_law_164 ?_
    refine z_iadd C d_L_law_165 ?_
    refine z_sld C hS (4 * n + 1) (by omega) (by omega) (by omega) d_L_law_166 ?_
    refine z_aload_n C d_L_law_167 rfl ?_
    refine z_iload_n C d_L_law_168 rfl ?_
    refine z_iconst C d_L_law_169 ?_
    refine z_iadd C d_L_law_170 ?_
    refine z_sld C hS (4 * n + 2) (by omega) (by omega) (by omega) d_L_law_171 ?_
    refine z_if_eq C 179 (by omega) d_L_law_172 (by decide) (fun h172 => absurd h172 (by omega)) (fun h172 => ?_)
    refine z_iconst C d_L_law_175 ?_
    refine z_goto C 180 d_L_law_176 (by decide) ?_
    refine z_callV C hKl (cM_need (xs (4 * n + 1)).toInt 1 (zF_ok A X) hI hRM1 r1 (Or.inr rfl)) (zgood (fun _ h => h) tw_co_M_need) rfl (hRM1.1) rfl tw_ml_L_22 tw_im_M_need tw_se_M_need tw_in_M pd_M_need (by decide) rfl (Nat.le_of_ble_eq_true rfl) (by constructor <;> (simp only [zroom, room_1]; omega)) d_L_law_180 (fun r σ2 hq => ?_)
    obtain ⟨rfl, hM2⟩ := hq
    refine z_icmp_same C 636 d_L_law_183 (by decide) ?_
    obtain ⟨X', O', hE, hw2⟩ := hw.step hP hM2 (iv_need hIV _ (Or.inr rfl))
    exact z_widen (by simp only [zroom]; omega) (by simp only [zroom]; omega) (nx X' O' _ _ hE hw2)
set_option maxRecDepth 100000 in
set_option maxHeartbeats 4000000 in
theorem law_2 (hKl : K.2.1 = l) (C : zCx K D vwCl A (ztys cI cZ cJ cB) (zF A X) room_1 c_L_law "InjectorTreeLaw" nm9 zw 4 (some .boolean)) (hS : zSc K A b L xs) (hn : 4 * n + 4 ≤ L) (hL : L ≤ 2048) (hc : cells + 4 ≤ 600000 ∧ slots + 19 ≤ 7302250) (hw : LWd cI cZ cJ cB X O m0 ad s σ) (nx : LNX K D A cI cZ cJ cB Q cells slots b n m0 ad X) : zJ K D vwCl A 4 Q cells slots σ 188 [some (.ref b), some (.ref (X 0)), some (.ref m0), some (iv ((4 * n : Nat) : Int))] [] := by
  obtain ⟨hRM, ⟨bnd, mkr, g, hx⟩, hdis, hIV⟩ := id hw
  have hI := hIV.1
  have hX := hx.2.1
  refine z_aload_n C d_L_law_188 rfl ?_
  refine z_callV C hKl (cX_drop  hI hx ) (zgood (fun _ h => h) tw_co_X_drop) rfl (hX) rfl tw_ml_L_23 tw_im_X_drop tw_se_X_drop tw_in_X pd_X_drop (by decide) rfl (Nat.le_of_ble_eq_true rfl) (by constructor <;> (simp only [zroom, room_1]; omega)) d_L_law_189 (fun r σ1 hq => ?_)
  obtain ⟨rfl, hP⟩ := hq
  have hRM1 := hw.rm1 hP
  refine z_aload_n C d_L_law_192 rfl ?_
  refine z_callV C hKl (cM_drop  (zF_ok A X) hRM1 ) (zgood (fun _ h => h) tw_co_M_drop) rfl (hRM1.1) rfl tw_ml_L_27 tw_im_M_drop tw_se_M_drop tw_in_M pd_M_drop (by decide) rfl (Nat.le_of_ble_eq_true rfl) (by constructor <;> (simp only [zroom, room_1]; omega)) d_L_law_193 (fun r σ2 hq => ?_)
  obtain ⟨rfl, hM2⟩ := hq
  refine z_icmp_same C 636 d_L_law_196 (by decide) ?_
  obtain ⟨X', O', hE, hw2⟩ := hw.step hP hM2 (iv_drop hIV)
  exact z_widen (by simp only [zroom]; omega) (by simp only [zroom]; omega) (nx X' O' _ _ hE hw2)
set_option maxRecDepth 100000 in
set_option maxHeartbeats 4000000 in
theorem law_3 (hKl : K.2.1 = l) (C : zCx K D vwCl A (ztys cI cZ cJ cB) (zF A X) room_1 c_L_law "InjectorTreeLaw" nm9 zw 4 (some .boolean)) (hS : zSc K A b L xs) (hn : 4 * n + 4 ≤ L) (hL : L ≤ 2048) (hc : cells + 4 ≤ 600000 ∧ slots + 19 ≤ 7302250) (hw : LWd cI cZ cJ cB X O m0 ad s σ) (nx : LNX K D A cI cZ cJ cB Q cells slots b n m0 ad X) : zJ K D vwCl A 4 Q cells slots σ 201 [some (.ref b), some (.ref (X 0)), some (.ref m0), some (iv ((4 * n : Nat) : Int))] [] := by
  obtain ⟨hRM, ⟨bnd, mkr, g, hx⟩, hdis, hIV⟩ := id hw
  have hI := hIV.1
  have hX := hx.2.1
  have r1 := z32r (xs (4 * n + 1))
  have r2 := z32r (xs (4 * n + 2))
  have r3 := z32r (xs (4 * n + 3))
  refine z_aload_n C d_L_law_201 rfl ?_
  refine z_aload_n C d_L_law_202 rfl ?_
  refine z_iload_n C d_L_law_203 rfl ?_
  refine z_iconst C d_L_law_204 ?_
  refine z_iadd C d_L_law_205 ?_
  refine z_sld C hS (4 * n + 1) (by omega) (by omega) (by omega) d_L_law_206 ?_
  refine z_aload_n C d_L_law_207 rfl ?_
  refine z_iload_n C d_L_law_208 rfl ?_
  refine z_iconst C d_L_law_209 ?_
  refine z_iadd C d_L_law_210 ?_
  refine z_sld C hS (4 * n + 2) (by omega) (by omega) (by omega) d_L_law_211 ?_
  refine z_aload_n C d_L_law_212 rfl ?_
  refine z_iload_n C d_L_law_213 rfl ?_
  refine z_iconst C d_L_law_214 ?_
  refine z_iadd C d_L_law_215 ?_
  refine z_sld C hS (4 * n + 3) (by omega) (by omega) (by omega) d_L_law_216 ?_
  refine z_callV C hKl (cX_bindConstant (xs (4 * n + 1)).toInt (xs (4 * n + 2)).toInt (xs (4 * n + 3)).toInt hI hx r1 r2) (zgood (fun _ h => h) tw_co_X_bindConstant) rfl (hX) rfl tw_ml_L_28 tw_im_X_bindConstant tw_se_X_bindConstant tw_in_X pd_X_bindConstant (by decide) rfl (Nat.le_of_ble_eq_true rfl) (by constructor <;> (simp only [zroom, room_1]; omega)) d_L_law_217 (fun r σ1 hq => ?_)
  obtain ⟨rfl, hP⟩ := hq
  have hRM1 := hw.rm1 hP
  refine z_aload_n C d_L_law_220 rfl ?_
  refine z_aload_n C d_L_law_221 rfl ?_
  refine z_iload_n C d_L_law_222 rfl ?_
  refine z_iconst C d_L_law_223 ?_
  refine z_iadd C d_L_law_224 ?_
  refine z_sld C hS (4 * n + 1) (by omega) (by omega) (by omega) d_L_law_225 ?_
  refine z_aload_n C d_L_law_226 rfl ?_
  refine z_iload_n C d_L_law_227 rfl ?_
  refine z_iconst C d_L_law_228 ?_
  refine z_iadd C d_L_law_229 ?_
  refine z_sld C hS (4 * n + 2) (by omega) (by omega) (by omega) d_L_law_230 ?_
  refine z_aload_n C d_L_law_231 rfl ?_
  refine z_iload_n C d_L_law_232 rfl ?_
  refine z_iconst C d_L_law_233 ?_
  refine z_iadd C d_L_law_234 ?_
  refine z_sld C hS (4 * n + 3) (by omega) (by omega) (by omega) d_L_law_235 ?_
  refine z_callV C hKl (cM_bindConstant (xs (4 * n + 1)).toInt (xs (4 * n + 2)).toInt (xs (4 * n + 3)).toInt (zF_ok A X) hI hRM1 r1 r2 r3) (zgood (fun _ h => h) tw_co_M_bindConstant) rfl (hRM1.1) rfl tw_ml_L_32 tw_im_M_bindConstant tw_se_M_bindConstant tw_in_M pd_M_bindConstant (by decide) rfl (Nat.le_of_ble_eq_true rfl) (by constructor <;> (simp only [zroom, room_1]; omega)) d_L_law_236 (fun r σ2 hq => ?_)
  obtain ⟨rfl, hM2⟩ := hq
  refine z_icmp_same C 636 d_L_law_239 (by decide) ?_
  obtain ⟨X', O', hE, hw2⟩ := hw.step hP hM2 (iv_bind hIV _ _ (Or.inl rfl) r3)
  exact z_widen (by simp only [zroom]; omega) (by simp only [zroom]; omega) (nx X' O' _ _ hE hw2)
set_option maxRecDepth 100000 in
set_option maxHeartbeats 4000000 in
theorem law_4 (hKl : K.2.1 = l) (C : zCx K D vwCl A (ztys cI cZ cJ cB) (zF A X) room_1 c_L_law "InjectorTreeLaw" nm9 zw 4 (some .boolean)) (hS : zSc K A b L xs) (hn : 4 * n + 4 ≤ L) (hL : L ≤ 2048) (hc : cells + 4 ≤ 600000 ∧ slots + 19 ≤ 7302250) (hw : LWd cI cZ cJ cB X O m0 ad s σ) (nx : LNX K D A cI cZ cJ cB Q cells slots b n m0 ad X) : zJ K D vwCl A 4 Q cells slots σ 244 [some (.ref b), some (.ref (X 0)), some (.ref m0), some (iv ((4 * n : Nat) : Int))] [] := by
  obtain ⟨hRM, ⟨bnd, mkr, g, hx⟩, hdis, hIV⟩ := id hw
  have hI := hIV.1
  have hX := hx.2.1
  have r1 := z32r (xs (4 * n + 1))
  have r2 := z32r (xs (4 * n + 2))
  have r3 := z32r (xs (4 * n + 3))
  refine z_aload_n C d_L_law_244 rfl ?_
  refine z_aload_n C d_L_law_245 rfl ?_
  refine z_iload_n C d_L_law_246 rfl ?_
  refine z_iconst C d_L_law_247 ?_
  refine z_iadd C d_L_law_248 ?_
  refine z_sld C hS (4 * n + 1) (by omega) (by omega) (by omega) d_L_law_249 ?_
  refine z_aload_n C d_L_law_250 rfl ?_
  refine z_iload_n C d_L_law_251 rfl ?_
  refine z_iconst C d_L_law_252 ?_
  refine z_iadd C d_L_law_253 ?_
  refine z_sld C hS (4 * n + 2) (by omega) (by omega) (by omega) d_L_law_254 ?_
  refine z_aload_n C d_L_law_255 rfl ?_
  refine z_iload_n C d_L_law_256 rfl ?_
  refine z_iconst C d_L_law_257 ?_
  refine z_iadd C d_L_law_258 ?_
  refine z_sld C hS (4 * n + 3) (by omega) (by omega) (by omega) d_L_law_259 ?_
  refine z_callV C hKl (cX_bindLink (xs (4 * n + 1)).toInt (xs (4 * n + 2)).toInt (xs (4 * n + 3)).toInt hI hx r1 r2 r3) (zgood (fun _ h => h) tw_co_X_bindLink) rfl (hX) rfl tw_ml_L_33 tw_im_X_bindLink tw_se_X_bindLink tw_in_X pd_X_bindLink (by decide) rfl (Nat.le_of_ble_eq_true rfl) (by constructor <;> (simp only [zroom, room_1]; omega)) d_L_law_260 (fun r σ1 hq => ?_)
  obtain ⟨rfl, hP⟩ := hq
  have hRM1 := hw.rm1 hP
  refine z_aload_n C d_L_law_263 rfl ?_
  refine z_aload_n C d_L_law_264 rfl ?_
  refine z_iload_n C d_L_law_265 rfl ?_
  refine z_iconst C d_L_law_266 ?_
  refine z_iadd C d_L_law_267 ?_
  refine z_sld C hS (4 * n + 1) (by omega) (by omega) (by omega) d_L_law_268 ?_
  refine z_aload_n C d_L_law_269 rfl ?_
  refine z_iload_n C d_L_law_270 rfl ?_
  refine z_iconst C d_L_law_271 ?_
  refine z_iadd C d_L_law_272 ?_
  refine z_sld C hS (4 * n + 2) (by omega) (by omega) (by omega) d_L_law_273 ?_
  refine z_aload_n C d_L_law_274 rfl ?_
  refine z_iload_n C d_L_law_275 rfl ?_
  refine z_iconst C d_L_law_276 ?_
  refine z_iadd C d_L_law_277 ?_
  refine z_sld C hS (4 * n + 3) (by omega) (by omega) (by omega) d_L_law_278 ?_
  refine z_callV C hKl (cM_bindLink (xs (4 * n + 1)).toInt (xs (4 * n + 2)).toInt (xs (4 * n + 3)).toInt (zF_ok A X) hI hRM1 r1 r2 r3) (zgood (fun _ h => h) tw_co_M_bindLink) rfl (hRM1.1) rfl tw_ml_L_36 tw_im_M_bindLink tw_se_M_bindLink tw_in_M pd_M_bindLink (by decide) rfl (Nat.le_of_ble_eq_true rfl) (by constructor <;> (simp only [zroom, room_1]; omega)) d_L_law_279 (fun r σ2 hq => ?_)
  obtain ⟨rfl, hM2⟩ := hq
  refine z_icmp_same C 636 d_L_law_282 (by decide) ?_
  obtain ⟨X', O', hE, hw2⟩ := hw.step hP hM2 (iv_bindLink hIV _ _ _ r3)
  exact z_widen (by simp only [zroom]; omega) (by simp only [zroom]; omega) (nx X' O' _ _ hE hw2)
set_option maxRecDepth 100000 in
set_option maxHeartbeats 4000000 in
theorem law_5 (hKl : K.2.1 = l) (C : zCx K D vwCl A (ztys cI cZ cJ cB) (zF A X) room_1 c_L_law "InjectorTreeLaw" nm9 zw 4 (some .boolean)) (hS : zSc K A b L xs) (hn : 4 * n + 4 ≤ L) (hL : L ≤ 2048) (hc : cells + 4 ≤ 600000 ∧ slots + 19 ≤ 7302250) (hw : LWd cI cZ cJ cB X O m0 ad s σ) (nx : LNX K D A cI cZ cJ cB Q cells slots b n m0 ad X) : zJ K D vwCl A 4 Q cells slots σ 287 [some (.ref b), some (.ref (X 0)), some (.ref m0), some (iv ((4 * n : Nat) : Int))] [] := by
  obtain ⟨hRM, ⟨bnd, mkr, g, hx⟩, hdis, hIV⟩ := id hw
  have hI := hIV.1
  have hX := hx.2.1
  have r1 := z32r (xs (4 * n + 1))
  have r2 := z32r (xs (4 * n + 2))
  have r3 := z32r (xs (4 * n + 3))
  refine z_aload_n C d_L_law_287 rfl ?_
  refine z_aload_n C d_L_law_288 rfl ?_
  refine z_iload_n C d_L_law_289 rfl ?_
  refine z_iconst C d_L_law_290 ?_
  refine z_iadd C d_L_law_291 ?_
  refine z_sld C hS (4 * n + 1) (by omega) (by omega) (by omega) d_L_law_292 ?_
  refine z_aload_n C d_L_law_293 rfl ?_
  refine z_iload_n C d_L_law_294 rfl ?_
  refine z_iconst C d_L_law_295 ?_
  refine z_iadd C d_L_law_296 ?_
  refine z_sld C hS (4 * n + 2) (by omega) (by omega) (by omega) d_L_law_297 ?_
  refine z_aload_n C d_L_law_298 rfl ?_
  refine z_iload_n C d_L_law_299 rfl ?_
  refine z_iconst C d_L_law_300 ?_
  refine z_iadd C d_L_law_301 ?_
  refine z_sld C hS (4 * n + 3) (by omega) (by omega) (by omega) d_L_law_302 ?_
  refine z_callV C hKl (cX_bindClass (xs (4 * n + 1)).toInt (xs (4 * n + 2)).toInt (xs (4 * n + 3)).toInt hI hx r1 r2 r3) (zgood (fun _ h => h) tw_co_X_bindClass) rfl (hX) rfl tw_ml_L_37 tw_im_X_bindClass tw_se_X_bindClass tw_in_X pd_X_bindClass (by decide) rfl (Nat.le_of_ble_eq_true rfl) (by constructor <;> (simp only [zroom, room_1]; omega)) d_L_law_303 (fun r σ1 hq => ?_)
  obtain ⟨rfl, hP⟩ := hq
  have hRM1 := hw.rm1 hP
  refine z_aload_n C d_L_law_306 rfl ?_
  refine z_aload_n C d_L_law_307 rfl ?_
  refine z_iload_n C d_L_law_308 rfl ?_
  refine z_iconst C d_L_law_309 ?_
  refine z_iadd C d_L_law_310 ?_
  refine z_sld C hS (4 * n + 1) (by omega) (by omega) (by omega) d_L_law_311 ?_
  refine z_aload_n C d_L_law_312 rfl ?_
  refine z_iload_n C d_L_law_313 rfl ?_
  refine z_iconst C d_L_law_314 ?_
  refine z_iadd C d_L_law_315 ?_
  refine z_sld C hS (4 * n + 2) (by omega) (by omega) (by omega) d_L_law_316 ?_
  refine z_aload_n C d_L_law_317 rfl ?_
  refine z_iload_n C d_L_law_318 rfl ?_
  refine z_iconst C d_L_law_319 ?_
  refine z_iadd C d_L_law_320 ?_
  refine z_sld C hS (4 * n + 3) (by omega) (by omega) (by omega) d_L_law_321 ?_
  refine z_callV C hKl (cM_bindClass (xs (4 * n + 1)).toInt (xs (4 * n + 2)).toInt (xs (4 * n + 3)).toInt (zF_ok A X) hI hRM1 r1 r2 r3) (zgood (fun _ h => h) tw_co_M_bindClass) rfl (hRM1.1) rfl tw_ml_L_40 tw_im_M_bindClass tw_se_M_bindClass tw_in_M pd_M_bindClass (by decide) rfl (Nat.le_of_ble_eq_true rfl) (by constructor <;> (simp only [zroom, room_1]; omega)) d_L_law_322 (fun r σ2 hq => ?_)
  obtain ⟨rfl, hM2⟩ := hq
  refine z_icmp_same C 636 d_L_law_325 (by decide) ?_
  obtain ⟨X', O', hE, hw2⟩ := hw.step hP hM2 (iv_bindClass hIV _ _ _)
  exact z_widen (by simp only [zroom]; omega) (by simp only [zroom]; omega) (nx X' O' _ _ hE hw2)
set_option maxRecDepth 100000 in
set_option maxHeartbeats 4000000 in
theorem law_6 (hKl : K.2.1 = l) (C : zCx K D vwCl A (ztys cI cZ cJ cB) (zF A X) room_1 c_L_law "InjectorTreeLaw" nm9 zw 4 (some .boolean)) (hS : zSc K A b L xs) (hn : 4 * n + 4 ≤ L) (hL : L ≤ 2048) (hc : cells + 4 ≤ 600000 ∧ slots + 19 ≤ 7302250) (hw : LWd cI cZ cJ cB X O m0 ad s σ) (nx : LNX K D A cI cZ cJ cB Q cells slots b n m0 ad X) : zJ K D vwCl A 4 Q cells slots σ 330 [some (.ref b), some (.ref (X 0)), some (.ref m0), some (iv ((4 * n : Nat) : Int))] [] := by
  obtain ⟨hRM, ⟨bnd, mkr, g, hx⟩, hdis, hIV⟩ := id hw
  have hI := hIV.1
  have hX := hx.2.1
  have r1 := z32r (xs (4 * n + 1))
  have r2 := z32r (xs (4 * n + 2))
  refine z_aload_n C d_L_law_330 rfl ?_
  refine z_aload_n C d_L_law_331 rfl ?_
  refine z_iload_n C d_L_law_332 rfl ?_
  refine z_iconst C d_L_law_333 ?_
  refine z_iadd C d_L_law_334 ?_
  refine z_sld C hS (4 * n + 1) (by omega) (by omega) (by omega) d_L_law_335 ?_
  refine z_aload_n C d_L_law_336 rfl ?_
  refine z_iload_n C d_L_law_337 rfl ?_
  refine z_iconst C d_L_law_338 ?_
  refine z_iadd C d_L_law_339 ?_
  refine z_sld C hS (4 * n + 2) (by omega) (by omega) (by omega) d_L_law_340 ?_
  refine z_callV C hKl (cX_unbind (xs (4 * n + 1)).toInt (xs (4 * n + 2)).toInt hI hx r1 r2) (zgood (fun _ h => h) tw_co_X_unbind) rfl (hX) rfl tw_ml_L_41 tw_im_X_unbind tw_se_X_unbind tw_in_X pd_X_unbind (by decide) rfl (Nat.le_of_ble_eq_true rfl) (by constructor <;> (simp only [zroom, room_1]; omega)) d_L_law_341 (fun r σ1 hq => ?_)
  obtain ⟨rfl, hP⟩ := hq
  have hRM1 := hw.rm1 hP
  refine z_aload_n C d_L_law_344 rfl ?_
  refine z_aload_n C d_L_law_345 rfl ?_
  refine z_iload_n C d_L_law_346 rfl ?_
  refine z_iconst C d_L_law_347 ?_
  refine z_iadd C d_L_law_348 ?_
  refine z_sld C hS (4 * n + 1) (by omega) (by omega) (by omega) d_L_law_349 ?_
  refine z_aload_n C d_L_law_350 rfl ?_
  refine z_iload_n C d_L_law_351 rfl ?_
  refine z_iconst C d_L_law_352 ?_
  refine z_iadd C d_L_law_353 ?_
  refine z_sld C hS (4 * n + 2) (by omega) (by omega) (by omega) d_L_law_354 ?_
  refine z_callV C hKl (cM_unbind (xs (4 * n + 1)).toInt (xs (4 * n + 2)).toInt (zF_ok A X) hI hRM1 r1 r2) (zgood (fun _ h => h) tw_co_M_unbind) rfl (hRM1.1) rfl tw_ml_L_45 tw_im_M_unbind tw_se_M_unbind tw_in_M pd_M_unbind (by decide) rfl (Nat.le_of_ble_eq_true rfl) (by constructor <;> (simp only [zroom, room_1]; omega)) d_L_law_355 (fun r σ2 hq => ?_)
  obtain ⟨rfl, hM2⟩ := hq
  refine z_icmp_same C 636 d_L_law_358 (by decide) ?_
  obtain ⟨X', O', hE, hw2⟩ := hw.step hP hM2 (iv_unbind hIV _ _)
  exact z_widen (by simp only [zroom]; omega) (by simp only [zroom]; omega) (nx X' O' _ _ hE hw2)
set_option maxRecDepth 100000 in
set_option maxHeartbeats 4000000 in
theorem law_7 (hKl : K.2.1 = l) (C : zCx K D vwCl A (ztys cI cZ cJ cB) (zF A X) room_1 c_L_law "InjectorTreeLaw" nm9 zw 4 (some .boolean)) (hS : zSc K A b L xs) (hn : 4 * n + 4 ≤ L) (hL : L ≤ 2048) (hc : cells + 4 ≤ 600000 ∧ slots + 19 ≤ 7302250) (hw : LWd cI cZ cJ cB X O m0 ad s σ) (nx : LNX K D A cI cZ cJ cB Q cells slots b n m0 ad X) : zJ K D vwCl A 4 Q cells slots σ 363 [some (.ref b), some (.ref (X 0)), some (.ref m0), some (iv ((4 * n : Nat) : Int))] [] := by
  obtain ⟨hRM, ⟨bnd, mkr, g, hx⟩, hdis, hIV⟩ := id hw
  have hI := hIV.1
  have hX := hx.2.1
  refine z_aload_n C d_L_law_363 rfl ?_
  refine z_callV C hKl (cX_open  hI hx ) (zgood (fun _ h => h) tw_co_X_open) rfl (hX) rfl tw_ml_L_46 tw_im_X_open tw_se_X_open tw_in_X pd_X_open (by decide) rfl (Nat.le_of_ble_eq_true rfl) (by constructor <;> (simp only [zroom, room_1]; omega)) d_L_law_364 (fun r σ1 hq => ?_)
  obtain ⟨rfl, hP⟩ := hq
  have hRM1 := hw.rm1 hP
  refine z_aload_n C d_L_law_367 rfl ?_
  refine z_callV C hKl (cM_open  (zF_ok A X) hI hRM1 ) (zgood (fun _ h => h) tw_co_M_open) rfl (hRM1.1) rfl tw_ml_L_49 tw_im_M_open tw_se_M_open tw_in_M pd_M_open (by decide) rfl (Nat.le_of_ble_eq_true rfl) (by constructor <;> (simp only [zroom, room_1]; omega)) d_L_law_368 (fun r σ2 hq => ?_)
  obtain ⟨rfl, hM2⟩ := hq
  refine z_icmp_same C 636 d_L_law_371 (by decide) ?_
  obtain ⟨X', O', hE, hw2⟩ := hw.step hP hM2 (iv_open hIV)
  exact z_widen (by simp only [zroom]; omega) (by simp only [zroom]; omega) (nx X' O' _ _ hE hw2)
set_option maxRecDepth 100000 in
set_option maxHeartbeats 4000000 in
theorem law_8 (hKl : K.2.1 = l) (C : zCx K D vwCl A (ztys cI cZ cJ cB) (zF A X) room_1 c_L_law "InjectorTreeLaw" nm9 zw 4 (some .boolean)) (hS : zSc K A b L xs) (hn : 4 * n + 4 ≤ L) (hL : L ≤ 2048) (hc : cells + 4 ≤ 600000 ∧ slots + 19 ≤ 7302250) (hw : LWd cI cZ cJ cB X O m0 ad s σ) (nx : LNX K D A cI cZ cJ cB Q cells slots b n m0 ad X) : zJ K D vwCl A 4 Q cells slots σ 376 [some (.ref b), some (.ref (X 0)), some (.ref m0), some (iv ((4 * n : Nat) : Int))] [] := by
  obtain ⟨hRM, ⟨bnd, mkr, g, hx⟩, hdis, hIV⟩ := id hw
  have hI := hIV.1
  have hX := hx.2.1
  refine z_aload_n C d_L_law_376 rfl ?_
  refine z_callV C hKl (cX_close  hI hx ) (zgood (fun _ h => h) tw_co_X_close) rfl (hX) rfl tw_ml_L_50 tw_im_X_close tw_se_X_close tw_in_X pd_X_close (by decide) rfl (Nat.le_of_ble_eq_true rfl) (by constructor <;> (simp only [zroom, room_1]; omega)) d_L_law_377 (fun r σ1 hq => ?_)
  obtain ⟨rfl, hP⟩ := hq
  have hRM1 := hw.rm1 hP
  refine z_aload_n C d_L_law_380 rfl ?_
  refine z_callV C hKl (cM_close  (zF_ok A X) hI hRM1 ) (zgood (fun _ h => h) tw_co_M_close) rfl (hRM1.1) rfl tw_ml_L_53 tw_im_M_close tw_se_M_close tw_in_M pd_M_close (by decide) rfl (Nat.le_of_ble_eq_true rfl) (by constructor <;> (simp only [zroom, room_1]; omega)) d_L_law_381 (fun r σ2 hq => ?_)
  obtain ⟨rfl, hM2⟩ := hq
  refine z_icmp_same C 636 d_L_law_384 (by decide) ?_
  obtain ⟨X', O', hE, hw2⟩ := hw.step hP hM2 (iv_close hIV)
  exact z_widen (by simp only [zroom]; omega) (by simp only [zroom]; omega) (nx X' O' _ _ hE hw2)
set_option maxRecDepth 100000 in
set_option maxHeartbeats 4000000 in
theorem law_9 (hKl : K.2.1 = l) (C : zCx K D vwCl A (ztys cI cZ cJ cB) (zF A X) room_1 c_L_law "InjectorTreeLaw" nm9 zw 4 (some .boolean)) (hS : zSc K A b L xs) (hn : 4 * n + 4 ≤ L) (hL : L ≤ 2048) (hc : cells + 4 ≤ 600000 ∧ slots + 19 ≤ 7302250) (hw : LWd cI cZ cJ cB X O m0 ad s σ) (nx : LNX K D A cI cZ cJ cB Q cells slots b n m0 ad X) : zJ K D vwCl A 4 Q cells slots σ 389 [some (.ref b), some (.ref (X 0)), some (.ref m0), some (iv ((4 * n : Nat) : Int))] [] := by
  obtain ⟨hRM, ⟨bnd, mkr, g, hx⟩, hdis, hIV⟩ := id hw
  have hI := hIV.1
  have hX := hx.2.1
  have r1 := z32r (xs (4 * n + 1))
  have r2 := z32r (xs (4 * n + 2))
  refine z_aload_n C d_L_law_389 rfl ?_
  refine z_aload_n C d_L_law_390 rfl ?_
  refine z_iload_n C d_L_law_391 rfl ?_
  refine z_iconst C d_L_law_392 ?_
  refine z_iadd C d_L_law_393 ?_
  refine z_sld C hS (4 * n + 1) (by omega) (by omega) (by omega) d_L_law_394 ?_
  refine z_aload_n C d_L_law_395 rfl ?_
  refine z_iload_n C d_L_law_396 rfl ?_
  refine z_iconst C d_L_law_397 ?_
  refine z_iadd C d_L_law_398 ?_
  refine z_sld C hS (4 * n + 2) (by omega) (by omega) (by omega) d_L_law_399 ?_
  refine z_callV C hKl (cX_get (xs (4 * n + 1)).toInt (xs (4 * n + 2)).toInt hI hx r1 r2) (zgood (fun _ h => h) tw_co_X_get) rfl (hX) rfl tw_ml_L_54 tw_im_X_get tw_se_X_get tw_in_X pd_X_get (by decide) rfl (Nat.le_of_ble_eq_true rfl) (by constructor <;> (simp only [zroom, room_1]; omega)) d_L_law_400 (fun r σ1 hq => ?_)
  obtain ⟨rfl, mkr1, g1, hx1, hF1⟩ := hq
  have hRM1 := hw.rm2 hF1
  refine z_aload_n C d_L_law_403 rfl ?_
  refine z_aload_n C d_L_law_404 rfl ?_
  refine z_iload_n C d_L_law_405 rfl ?_
  refine z_iconst C d_L_law_406 ?_
  refine z_iadd C d_L_law_407 ?_
  refine z_sld C hS (4 * n + 1) (by omega) (by omega) (by omega) d_L_law_408 ?_
  refine z_aload_n C d_L_law_409 rfl ?_
  refine z_iload_n C d_L_law_410 rfl ?_
  refine z_iconst C d_L_law_411 ?_
  refine z_iadd C d_L_law_412 ?_
  refine z_sld C hS (4 * n + 2) (by omega) (by omega) (by omega) d_L_law_413 ?_
  refine z_callV C hKl (cM_get (xs (4 * n + 1)).toInt (xs (4 * n + 2)).toInt (zF_ok A X) hI hRM1 r1 r2 hIV.2) (zgood (fun _ h => h) tw_co_M_get) rfl (hRM1.1) rfl tw_ml_L_58 tw_im_M_get tw_se_M_get tw_in_M pd_M_get (by decide) rfl (Nat.le_of_ble_eq_true rfl) (by constructor <;> (simp only [zroom, room_1]; omega)) d_L_law_414 (fun r σ2 hq => ?_)
  obtain ⟨s2, rfl, hI2, hV2, hsq, hM2⟩ := hq
  refine z_lcmp_same C d_L_law_417 ?_
  refine z_if_eq C 636 (by omega) d_L_law_418 (by decide) (fun _ => ?_) (fun h => absurd rfl h)
  exact z_widen (by simp only [zroom]; omega) (by simp only [zroom]; omega) (nx X O _ _ ⟨rfl, rfl, rfl, rfl⟩ (hw.stepg hx1 hF1 hM2 hsq ⟨hI2, hV2⟩))
set_option maxRecDepth 100000 in
set_option maxHeartbeats 4000000 in
theorem law_10 (hKl : K.2.1 = l) (C : zCx K D vwCl A (ztys cI cZ cJ cB) (zF A X) room_1 c_L_law "InjectorTreeLaw" nm9 zw 4 (some .boolean)) (hS : zSc K A b L xs) (hn : 4 * n + 4 ≤ L) (hL : L ≤ 2048) (hc : cells + 4 ≤ 600000 ∧ slots + 19 ≤ 7302250) (hw : LWd cI cZ cJ cB X O m0 ad s σ) (nx : LNX K D A cI cZ cJ cB Q cells slots b n m0 ad X) : zJ K D vwCl A 4 Q cells slots σ 423 [some (.ref b), some (.ref (X 0)), some (.ref m0), some (iv ((4 * n : Nat) : Int))] [] := by
  obtain ⟨hRM, ⟨bnd, mkr, g, hx⟩, hdis, hIV⟩ := id hw
  have hI := hIV.1
  have hX := hx.2.1
  have r1 := z32r (xs (4 * n + 1))
  have r2 := z32r (xs (4 * n + 2))
  refine z_aload_n C d_L_law_423 rfl ?_
  refine z_aload_n C d_L_law_424 rfl ?_
  refine z_iload_n C d_L_law_425 rfl ?_
  refine z_iconst C d_L_law_426 ?_
  refine z_iadd C d_L_law_427 ?_
  refine z_sld C hS (4 * n + 1) (by omega) (by omega) (by omega) d_L_law_428 ?_
  refine z_aload_n C d_L_law_429 rfl ?_
  refine z_iload_n C d_L_law_430 rfl ?_
  refine z_iconst C d_L_law_431 ?_
  refine z_iadd C d_L_law_432 ?_
  refine z_sld C hS (4 * n + 2) (by omega) (by omega) (by omega) d_L_law_433 ?_
  refine z_callV C hKl (cX_ask (xs (4 * n + 1)).toInt (xs (4 * n + 2)).toInt hI hx r1 r2) (zgood (fun _ h => h) tw_co_X_ask) rfl (hX) rfl tw_ml_L_59 tw_im_X_ask tw_se_X_ask tw_in_X pd_X_ask (by decide) rfl (Nat.le_of_ble_eq_true rfl) (by constructor <;> (simp only [zroom, room_1]; omega)) d_L_law_434 (fun r σ1 hq => ?_)
  obtain ⟨rfl, mkr1, g1, hx1, hF1⟩ := hq
  have hRM1 := hw.rm2 hF1
  refine z_aload_n C d_L_law_437 rfl ?_
  refine z_aload_n C d_L_law_438 rfl ?_
  refine z_iload_n C d_L_law_439 rfl ?_
  refine z_iconst C d_L_law_440 ?_
  refine z_iadd C d_L_law_441 ?_
  refine z_sld C hS (4 * n + 1) (by omega) (by omega) (by omega) d_L_law_442 ?_
  refine z_aload_n C d_L_law_443 rfl ?_
  refine z_iload_n C d_L_law_444 rfl ?_
  refine z_iconst C d_L_law_445 ?_
  refine z_iadd C d_L_law_446 ?_
  refine z_sld C hS (4 * n + 2) (by omega) (by omega) (by omega) d_L_law_447 ?_
  refine z_callV C hKl (cM_ask (xs (4 * n + 1)).toInt (xs (4 * n + 2)).toInt (zF_ok A X) hI hRM1 r1 r2 hIV.2) (zgood (fun _ h => h) tw_co_M_ask) rfl (hRM1.1) rfl tw_ml_L_62 tw_im_M_ask tw_se_M_ask tw_in_M pd_M_ask (by decide) rfl (Nat.le_of_ble_eq_true rfl) (by constructor <;> (simp only [zroom, room_1]; omega)) d_L_law_448 (fun r σ2 hq => ?_)
  obtain ⟨s2, rfl, hI2, hV2, hsq, hM2⟩ := hq
  refine z_lcmp_same C d_L_law_451 ?_
  refine z_if_eq C 636 (by omega) d_L_law_452 (by decide) (fun _ => ?_) (fun h => absurd rfl h)
  exact z_widen (by simp only [zroom]; omega) (by simp only [zroom]; omega) (nx X O _ _ ⟨rfl, rfl, rfl, rfl⟩ (hw.stepg hx1 hF1 hM2 hsq ⟨hI2, hV2⟩))
set_option maxRecDepth 100000 in
set_option maxHeartbeats 4000000 in
theorem law_11 (hKl : K.2.1 = l) (C : zCx K D vwCl A (ztys cI cZ cJ cB) (zF A X) room_1 c_L_law "InjectorTreeLaw" nm9 zw 4 (some .boolean)) (hS : zSc K A b L xs) (hn : 4 * n + 4 ≤ L) (hL : L ≤ 2048) (hc : cells + 4 ≤ 600000 ∧ slots + 19 ≤ 7302250) (hw : LWd cI cZ cJ cB X O m0 ad s σ) (nx : LNX K D A cI cZ cJ cB Q cells slots b n m0 ad X) : zJ K D vwCl A 4 Q cells slots σ 457 [some (.ref b), some (.ref (X 0)), some (.ref m0), some (iv ((4 * n : Nat) : Int))] [] := by
  obtain ⟨hRM, ⟨bnd, mkr, g, hx⟩, hdis, hIV⟩ := id hw
  have hI := hIV.1
  have hX := hx.2.1
  have r1 := z32r (xs (4 * n + 1))
  have r2 := z32r (xs (4 * n + 2))
  refine z_aload_n C d_L_law_457 rfl ?_
  refine z_aload_n C d_L_law_458 rfl ?_
  refine z_iload_n C d_L_law_459 rfl ?_
  refine z_iconst C d_L_law_460 ?_
  refine z_iadd C d_L_law_461 ?_
  refine z_sld C hS (4 * n + 1) (by omega) (by omega) (by omega) d_L_law_462 ?_
  refine z_aload_n C d_L_law_463 rfl ?_
  refine z_iload_n C d_L_law_464 rfl ?_
  refine z_iconst C d_L_law_465 ?_
  refine z_iadd C d_L_law_466 ?_
  refine z_sld C hS (4 * n + 2) (by omega) (by omega) (by omega) d_L_law_467 ?_
  refine z_callV C hKl (cX_held (xs (4 * n + 1)).toInt (xs (4 * n + 2)).toInt hI hx r1 r2) (zgood (fun _ h => h) tw_co_X_held) rfl (hX) rfl tw_ml_L_63 tw_im_X_held tw_se_X_held tw_in_X pd_X_held (by decide) rfl (Nat.le_of_ble_eq_true rfl) (by constructor <;> (simp only [zroom, room_1]; omega)) d_L_law_468 (fun r σ hq => ?_)
  obtain ⟨rfl, rfl⟩ := hq
  refine z_aload_n C d_L_law_471 rfl ?_
  refine z_aload_n C d_L_law_472 rfl ?_
  refine z_iload_n C d_L_law_473 rfl ?_
  refine z_iconst C d_L_law_474 ?_
  refine z_iadd C d_L_law_475 ?_
  refine z_sld C hS (4 * n + 1) (by omega) (by omega) (by omega) d_L_law_476 ?_
  refine z_aload_n C d_L_law_477 rfl ?_
  refine z_iload_n C d_L_law_478 rfl ?_
  refine z_iconst C d_L_law_479 ?_
  refine z_iadd C d_L_law_480 ?_
  refine z_sld C hS (4 * n + 2) (by omega) (by omega) (by omega) d_L_law_481 ?_
  refine z_callV C hKl (cM_held (xs (4 * n + 1)).toInt (xs (4 * n + 2)).toInt (zF_ok A X) hI hRM r1 r2) (zgood (fun _ h => h) tw_co_M_held) rfl (hRM.1) rfl tw_ml_L_66 tw_im_M_held tw_se_M_held tw_in_M pd_M_held (by decide) rfl (Nat.le_of_ble_eq_true rfl) (by constructor <;> (simp only [zroom, room_1]; omega)) d_L_law_482 (fun r σ hq => ?_)
  obtain ⟨rfl, rfl⟩ := hq
  refine z_lcmp_same C d_L_law_485 ?_
  refine z_if_eq C 636 (by omega) d_L_law_486 (by decide) (fun _ => ?_) (fun h => absurd rfl h)
  exact z_widen (by simp only [zroom]; omega) (by simp only [zroom]; omega) (nx X O _ _ ⟨rfl, rfl, rfl, rfl⟩ hw)
set_option maxRecDepth 100000 in
set_option maxHeartbeats 4000000 in
theorem law_12 (hKl : K.2.1 = l) (C : zCx K D vwCl A (ztys cI cZ cJ cB) (zF A X) room_1 c_L_law "InjectorTreeLaw" nm9 zw 4 (some .boolean)) (hS : zSc K A b L xs) (hn : 4 * n + 4 ≤ L) (hL : L ≤ 2048) (hc : cells + 4 ≤ 600000 ∧ slots + 19 ≤ 7302250) (hw : LWd cI cZ cJ cB X O m0 ad s σ) (nx : LNX K D A cI cZ cJ cB Q cells slots b n m0 ad X) : zJ K D vwCl A 4 Q cells slots σ 491 [some (.ref b), some (.ref (X 0)), some (.ref m0), some (iv ((4 * n : Nat) : Int))] [] := by
  obtain ⟨hRM, ⟨bnd, mkr, g, hx⟩, hdis, hIV⟩ := id hw
  have hI := hIV.1
  have hX := hx.2.1
  have r1 := z32r (xs (4 * n + 1))
  have r2 := z32r (xs (4 * n + 2))
  refine z_aload_n C d_L_law_491 rfl ?_
  refine z_aload_n C d_L_law_492 rfl ?_
  refine z_iload_n C d_L_law_493 rfl ?_
  refine z_iconst C d_L_law_494 ?_
  refine z_iadd C d_L_law_495 ?_
  refine z_sld C hS (4 * n + 1) (by omega) (by omega) (by omega) d_L_law_496 ?_
  refine z_aload_n C d_L_law_497 rfl ?_
  refine z_iload_n C d_L_law_498 rfl ?_
  refine z_iconst C d_L_law_499 ?_
  refine z_iadd C d_L_law_500 ?_
  refine z_sld C hS (4 * n + 2) (by omega) (by omega) (by omega) d_L_law_501 ?_
  refine z_callV C hKl (cX_about (xs (4 * n + 1)).toInt (xs (4 * n + 2)).toInt hI hx r1 r2) (zgood (fun _ h => h) tw_co_X_about) rfl (hX) rfl tw_ml_L_67 tw_im_X_about tw_se_X_about tw_in_X pd_X_about (by decide) rfl (Nat.le_of_ble_eq_true rfl) (by constructor <;> (simp only [zroom, room_1]; omega)) d_L_law_502 (fun r σ hq => ?_)
  obtain ⟨rfl, rfl⟩ := hq
  refine z_aload_n C d_L_law_505 rfl ?_
  refine z_aload_n C d_L_law_506 rfl ?_
  refine z_iload_n C d_L_law_507 rfl ?_
  refine z_iconst C d_L_law_508 ?_
  refine z_iadd C d_L_law_509 ?_
  refine z_sld C hS (4 * n + 1) (by omega) (by omega) (by omega) d_L_law_510 ?_
  refine z_aload_n C d_L_law_511 rfl ?_
  refine z_iload_n C d_L_law_512 rfl ?_
  refine z_iconst C d_L_law_513 ?_
  refine z_iadd C d_L_law_514 ?_
  refine z_sld C hS (4 * n + 2) (by omega) (by omega) (by omega) d_L_law_515 ?_
  refine z_callV C hKl (cM_about (xs (4 * n + 1)).toInt (xs (4 * n + 2)).toInt (zF_ok A X) hI hRM r1 r2) (zgood (fun _ h => h) tw_co_M_about) rfl (hRM.1) rfl tw_ml_L_70 tw_im_M_about tw_se_M_about tw_in_M pd_M_about (by decide) rfl (Nat.le_of_ble_eq_true rfl) (by constructor <;> (simp only [zroom, room_1]; omega)) d_L_law_516 (fun r σ hq => ?_)
  obtain ⟨rfl, rfl⟩ := hq
  refine z_icmp_same C 636 d_L_law_519 (by decide) ?_
  exact z_widen (by simp only [zroom]; omega) (by simp only [zroom]; omega) (nx X O _ _ ⟨rfl, rfl, rfl, rfl⟩ hw)
set_option maxRecDepth 100000 in
set_option maxHeartbeats 4000000 in
theorem law_13 (hKl : K.2.1 = l) (C : zCx K D vwCl A (ztys cI cZ cJ cB) (zF A X) room_1 c_L_law "InjectorTreeLaw" nm9 zw 4 (some .boolean)) (hS : zSc K A b L xs) (hn : 4 * n + 4 ≤ L) (hL : L ≤ 2048) (hc : cells + 4 ≤ 600000 ∧ slots + 19 ≤ 7302250) (hw : LWd cI cZ cJ cB X O m0 ad s σ) (nx : LNX K D A cI cZ cJ cB Q cells slots b n m0 ad X) : zJ K D vwCl A 4 Q cells slots σ 524 [some (.ref b), some (.ref (X 0)), some (.ref m0), some (iv ((4 * n : Nat) : Int))] [] := by
  obtain ⟨hRM, ⟨bnd, mkr, g, hx⟩, hdis, hIV⟩ := id hw
  have hI := hIV.1
  have hX := hx.2.1
  have r1 := z32r (xs (4 * n + 1))
  refine z_aload_n C d_L_law_524 rfl ?_
  refine z_aload_n C d_L_law_525 rfl ?_
  refine z_iload_n C d_L_law_526 rfl ?_
  refine z_iconst C d_L_law_527 ?_
  refine z_iadd C d_L_law_528 ?_
  refine z_sld C hS (4 * n + 1) (by omega) (by omega) (by omega) d_L_law_529 ?_
  refine z_callV C hKl (cX_broken (xs (4 * n + 1)).toInt hI hx r1) (zgood (fun _ h => h) tw_co_X_broken) rfl (hX) rfl tw_ml_L_71 tw_im_X_broken tw_se_X_broken tw_in_X pd_X_broken (by decide) rfl (Nat.le_of_ble_eq_true rfl) (by constructor <;> (simp only [zroom, room_1]; omega)) d_L_law_530 (fun r σ1 hq => ?_)
  obtain ⟨rfl, mkr1, g1, hx1, hF1⟩ := hq
  have hRM1 := hw.rm2 hF1
  refine z_aload_n C d_L_law_533 rfl ?_
  refine z_aload_n C d_L_law_534 rfl ?_
  refine z_iload_n C d_L_law_535 rfl ?_
  refine z_iconst C d_L_law_536 ?_
  refine z_iadd C d_L_law_537 ?_
  refine z_sld C hS (4 * n + 1) (by omega) (by omega) (by omega) d_L_law_538 ?_
  refine z_callV C hKl (cM_broken (xs (4 * n + 1)).toInt (zF_ok A X) hI hRM1 r1 hIV.2) (zgood (fun _ h => h) tw_co_M_broken) rfl (hRM1.1) rfl tw_ml_L_74 tw_im_M_broken tw_se_M_broken tw_in_M pd_M_broken (by decide) rfl (Nat.le_of_ble_eq_true rfl) (by constructor <;> (simp only [zroom, room_1]; omega)) d_L_law_539 (fun r σ2 hq => ?_)
  obtain ⟨s2, rfl, hI2, hV2, hsq, hM2⟩ := hq
  refine z_icmp_same C 636 d_L_law_542 (by decide) ?_
  exact z_widen (by simp only [zroom]; omega) (by simp only [zroom]; omega) (nx X O _ _ ⟨rfl, rfl, rfl, rfl⟩ (hw.stepg hx1 hF1 hM2 hsq ⟨hI2, hV2⟩))
set_option maxRecDepth 100000 in
set_option maxHeartbeats 4000000 in
theorem law_14 (hKl : K.2.1 = l) (C : zCx K D vwCl A (ztys cI cZ cJ cB) (zF A X) room_1 c_L_law "InjectorTreeLaw" nm9 zw 4 (some .boolean)) (hS : zSc K A b L xs) (hn : 4 * n + 4 ≤ L) (hL : L ≤ 2048) (hc : cells + 4 ≤ 600000 ∧ slots + 19 ≤ 7302250) (hw : LWd cI cZ cJ cB X O m0 ad s σ) (nx : LNX K D A cI cZ cJ cB Q cells slots b n m0 ad X) : zJ K D vwCl A 4 Q cells slots σ 547 [some (.ref b), some (.ref (X 0)), some (.ref m0), some (iv ((4 * n : Nat) : Int))] [] := by
  obtain ⟨hRM, ⟨bnd, mkr, g, hx⟩, hdis, hIV⟩ := id hw
  have hI := hIV.1
  have hX := hx.2.1
  have r1 := z32r (xs (4 * n + 1))
  have r2 := z32r (xs (4 * n + 2))
  refine z_aload_n C d_L_law_547 rfl ?_
  refine z_aload_n C d_L_law_548 rfl ?_
  refine z_iload_n C d_L_law_549 rfl ?_
  refine z_iconst C d_L_law_550 ?_
  refine z_iadd C d_L_law_551 ?_
  refine z_sld C hS (4 * n + 1) (by omega) (by omega) (by omega) d_L_law_552 ?_
  refine z_aload_n C d_L_law_553 rfl ?_
  refine z_iload_n C d_L_law_554 rfl ?_
  refine z_iconst C d_L_law_555 ?_
  refine z_iadd C d_L_law_556 ?_
  refine z_sld C hS (4 * n + 2) (by omega) (by omega) (by omega) d_L_law_557 ?_
  refine z_callV C hKl (cX_reach (xs (4 * n + 1)).toInt (xs (4 * n + 2)).toInt hI hx r1 r2) (zgood (fun _ h => h) tw_co_X_reach) rfl (hX) rfl tw_ml_L_75 tw_im_X_reach tw_se_X_reach tw_in_X pd_X_reach (by decide) rfl (Nat.le_of_ble_eq_true rfl) (by constructor <;> (simp only [zroom, room_1]; omega)) d_L_law_558 (fun r σ hq => ?_)
  obtain ⟨rfl, hq⟩ := hq
  obtain ⟨v1, rfl, hv1⟩ := RC.of hq
  refine z_aload_n C d_L_law_561 rfl ?_
  refine z_aload_n C d_L_law_562 rfl ?_
  refine z_iload_n C d_L_law_563 rfl ?_
  refine z_iconst C d_L_law_564 ?_
  refine z_iadd C d_L_law_565 ?_
  refine z_sld C hS (4 * n + 1) (by omega) (by omega) (by omega) d_L_law_566 ?_
  refine z_aload_n C d_L_law_567 rfl ?_
  refine z_iload_n C d_L_law_568 rfl ?_
  refine z_iconst C d_L_law_569 ?_
  refine z_iadd C d_L_law_570 ?_
  refine z_sld C hS (4 * n + 2) (by omega) (by omega) (by omega) d_L_law_571 ?_
  refine z_callV C hKl (cM_reach (xs (4 * n + 1)).toInt (xs (4 * n + 2)).toInt (zF_ok A X) hI hRM r1 r2) (zgood (fun _ h => h) tw_co_M_reach) rfl (hRM.1) rfl tw_ml_L_78 tw_im_M_reach tw_se_M_reach tw_in_M pd_M_reach (by decide) rfl (Nat.le_of_ble_eq_true rfl) (by constructor <;> (simp only [zroom, room_1]; omega)) d_L_law_572 (fun r σ hq => ?_)
  obtain ⟨rfl, hq⟩ := hq
  obtain ⟨v2, rfl, hv2⟩ := RC.of hq
  have ev := hv1.eq hv2
  subst ev
  refine z_icmp_same C 636 d_L_law_575 (by decide) ?_
  exact z_widen (by simp only [zroom]; omega) (by simp only [zroom]; omega) (nx X O _ _ ⟨rfl, rfl, rfl, rfl⟩ hw)
set_option maxRecDepth 100000 in
set_option maxHeartbeats 4000000 in
theorem law_15 (hKl : K.2.1 = l) (C : zCx K D vwCl A (ztys cI cZ cJ cB) (zF A X) room_1 c_L_law "InjectorTreeLaw" nm9 zw 4 (some .boolean)) (hS : zSc K A b L xs) (hn : 4 * n + 4 ≤ L) (hL : L ≤ 2048) (hc : cells + 4 ≤ 600000 ∧ slots + 19 ≤ 7302250) (hw : LWd cI cZ cJ cB X O m0 ad s σ) (nx : LNX K D A cI cZ cJ cB Q cells slots b n m0 ad X) : zJ K D vwCl A 4 Q cells slots σ 580 [some (.ref b), some (.ref (X 0)), some (.ref m0), some (iv ((4 * n : Nat) : Int))] [] := by
  obtain ⟨hRM, ⟨bnd, mkr, g, hx⟩, hdis, hIV⟩ := id hw
  have hI := hIV.1
  have hX := hx.2.1
  have r1 := z32r (xs (4 * n + 1))
  have r2 := z32r (xs (4 * n + 2))
  refine z_aload_n C d_L_law_580 rfl ?_
  refine z_aload_n C d_L_law_581 rfl ?_
  refine z_iload_n C d_L_law_582 rfl ?_
  refine z_iconst C d_L_law_583 ?_
  refine z_iadd C d_L_law_584 ?_
  refine z_sld C hS (4 * n + 1) (by omega) (by omega) (by omega) d_L_law_585 ?_
  refine z_aload_n C d_L_law_586 rfl ?_
  refine z_iload_n C d_L_law_587 rfl ?_
  refine z_iconst C d_L_law_588 ?_
  refine z_iadd C d_L_law_589 ?_
  refine z_sld C hS (4 * n + 2) (by omega) (by omega) (by omega) d_L_law_590 ?_
  refine z_callV C hKl (cX_home (xs (4 * n + 1)).toInt (xs (4 * n + 2)).toInt hI hx r1 r2) (zgood (fun _ h => h) tw_co_X_home) rfl (hX) rfl tw_ml_L_79 tw_im_X_home tw_se_X_home tw_in_X pd_X_home (by decide) rfl (Nat.le_of_ble_eq_true rfl) (by constructor <;> (simp only [zroom, room_1]; omega)) d_L_law_591 (fun r σ hq => ?_)
  obtain ⟨rfl, rfl⟩ := hq
  refine z_aload_n C d_L_law_594 rfl ?_
  refine z_aload_n C d_L_law_595 rfl ?_
  refine z_iload_n C d_L_law_596 rfl ?_
  refine z_iconst C d_L_law_597 ?_
  refine z_iadd C d_L_law_598 ?_
  refine z_sld C hS (4 * n + 1) (by omega) (by omega) (by omega) d_L_law_599 ?_
  refine z_aload_n C d_L_law_600 rfl ?_
  refine z_iload_n C d_L_law_601 rfl ?_
  refine z_iconst C d_L_law_602 ?_
  refine z_iadd C d_L_law_603 ?_
  refine z_sld C hS (4 * n + 2) (by omega) (by omega) (by omega) d_L_law_604 ?_
  refine z_callV C hKl (cM_home (xs (4 * n + 1)).toInt (xs (4 * n + 2)).toInt (zF_ok A X) hI hRM r1 r2) (zgood (fun _ h => h) tw_co_M_home) rfl (hRM.1) rfl tw_ml_L_82 tw_im_M_home tw_se_M_home tw_in_M pd_M_home (by decide) rfl (Nat.le_of_ble_eq_true rfl) (by constructor <;> (simp only [zroom, room_1]; omega)) d_L_law_605 (fun r σ hq => ?_)
  obtain ⟨rfl, rfl⟩ := hq
  refine z_icmp_same C 636 d_L_law_608 (by decide) ?_
  exact z_widen (by simp only [zroom]; omega) (by simp only [zroom]; omega) (nx X O _ _ ⟨rfl, rfl, rfl, rfl⟩ hw)
set_option maxRecDepth 100000 in
set_option maxHeartbeats 4000000 in
theorem law_16 (hKl : K.2.1 = l) (C : zCx K D vwCl A (ztys cI cZ cJ cB) (zF A X) room_1 c_L_law "InjectorTreeLaw" nm9 zw 4 (some .boolean)) (hS : zSc K A b L xs) (hn : 4 * n + 4 ≤ L) (hL : L ≤ 2048) (hc : cells + 4 ≤ 600000 ∧ slots + 19 ≤ 7302250) (hw : LWd cI cZ cJ cB X O m0 ad s σ) (nx : LNX K D A cI cZ cJ cB Q cells slots b n m0 ad X) : zJ K D vwCl A 4 Q cells slots σ 613 [some (.ref b), some (.ref (X 0)), some (.ref m0), some (iv ((4 * n : Nat) : Int))] [] := by
  obtain ⟨hRM, ⟨bnd, mkr, g, hx⟩, hdis, hIV⟩ := id hw
  have hI := hIV.1
  have hX := hx.2.1
  have r1 := z32r (xs (4 * n + 1))
  refine z_aload_n C d_L_law_613 rfl ?_
  refine z_aload_n C d_L_law_614 rfl ?_
  refine z_iload_n C d_L_law_615 rfl ?_
  refine z_iconst C d_L_law_616 ?_
  refine z_iadd C d_L_law_617 ?_
  refine z_sld C hS (4 * n + 1) (by omega) (by omega) (by omega) d_L_law_618 ?_
  refine z_callV C hKl (cX_count (xs (4 * n + 1)).toInt r1 hI hx) (zgood (fun _ h => h) tw_co_X_count) rfl (hX) rfl tw_ml_L_83 tw_im_X_count tw_se_X_count tw_in_X pd_X_count (by decide) rfl (Nat.le_of_ble_eq_true rfl) (by constructor <;> (simp only [zroom, room_1]; omega)) d_L_law_619 (fun r σ hq => ?_)
  obtain ⟨rfl, rfl⟩ := hq
  refine z_aload_n C d_L_law_622 rfl ?_
  refine z_aload_n C d_L_law_623 rfl ?_
  refine z_iload_n C d_L_law_624 rfl ?_
  refine z_iconst C d_L_law_625 ?_
  refine z_iadd C d_L_law_626 ?_
  refine z_sld C hS (4 * n + 1) (by omega) (by omega) (by omega) d_L_law_627 ?_
  refine z_callV C hKl (cM_count (xs (4 * n + 1)).toInt (zF_ok A X) hI hRM r1) (zgood (fun _ h => h) tw_co_M_count) rfl (hRM.1) rfl tw_ml_L_86 tw_im_M_count tw_se_M_count tw_in_M pd_M_count (by decide) rfl (Nat.le_of_ble_eq_true rfl) (by constructor <;> (simp only [zroom, room_1]; omega)) d_L_law_628 (fun r σ hq => ?_)
  obtain ⟨rfl, rfl⟩ := hq
  refine z_icmp_same C 636 d_L_law_631 (by decide) ?_
  exact z_widen (by simp only [zroom]; omega) (by simp only [zroom]; omega) (nx X O _ _ ⟨rfl, rfl, rfl, rfl⟩ hw)
end LC
