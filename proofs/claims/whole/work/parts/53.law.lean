/-! THE LAW: one call of its loop -/
abbrev lawC (V : xV) (K : xK) (b L : Nat) (xs : Nat → Int32) : Prop := xCtx V K b_La_law R_La 8 10 false false (some .boolean) (some (b, L, xs)) (fun v _ => v = some (.int 1))
/-- the law's locals in its loop -/
def lawV (A : Nat → Nat) (b i : Nat) : List (Nat × Value) := [(4, .int (nI i)), (3, .ref (A 18)), (2, .ref (A 10)), (1, .ref (A 0)), (0, .ref b)]
theorem law_in {i L k : Nat} {kk : Int32} (hi : i + 4 ≤ L) (hL : L ≤ 2048) (hk : kk = nI k ∧ k < 4) : vp_in (nI i + kk) L := by
  obtain ⟨rfl, hk⟩ := hk
  rw [nI_add]
  exact vp_in_nI (by omega) (by omega)
theorem law_cmp {o : Nat → Int64} {x : Int64} (e : o 0 = x) : lg_cmp (o (0 : Int32).toNatClampNeg) x = 0 := by
  rw [show (0 : Int32).toNatClampNeg = 0 from rfl, e]
  unfold lg_cmp
  rw [if_neg (show ¬ x > x from Int64.lt_irrefl), if_pos rfl]
theorem law_cat (v : Option Value) : ((v.toList ++ []).map fun v : Value => v.category).sum ≤ 8 := by
  rcases v with _ | v
  · decide
  · cases v <;> exact Nat.le_of_ble_eq_true rfl
theorem INV.obj {V : xV} {A : Nat → Nat} {h : xH} (hI : INV V A h) : ∃ fs, h (A 0) = some (.inr (7, fs)) := by
  obtain ⟨ks, ns, f, c, s, g, c2, of, f2, hk, hn, n, N, SS, st, gv, on, en, fp, sp, tt, fs, o, hA, hCl, -⟩ := hI
  exact ⟨_, hCl.1⟩
set_option maxRecDepth 20000 in
set_option maxHeartbeats 1000000 in
theorem law_feed {V : xV} {K : xK} {b L : Nat} {xs : Nat → Int32} {A : Nat → Nat} {h : xH} {mc ms i : Nat} (C : lawC V K b L xs) (hI : INV V A h) (hi : i + 4 ≤ L) (hL : L ≤ 2048) (kk : ∀ h2, INV V A h2 → K mc ms h2 536 (lawV A b i) []) : K (mc + 49) (ms + 136) h 92 (lawV A b i) [] := by
  obtain ⟨mc', ms', Q0, hmc, hms, hW, hend⟩ := step_feed hI (xs (nI i + 1).toNatClampNeg) (xs (nI i + 2).toNatClampNeg)
  refine x_mono (mc := mc + mc') (ms := ms + ms') C (by omega) (by omega) ?_
  unfold lawV
  refine x_aload_n C d_La_law_92 rfl rfl ?_
  refine x_aload_n C d_La_law_93 rfl rfl ?_
  refine x_iload C d_La_law_94 rfl ?_
  refine x_iconst (v := 1) C d_La_law_96 (by decide) ?_
  refine x_iadd C d_La_law_97 ?_
  refine x_sld C d_La_law_98 (law_in (k := 1) hi hL (by decide)) ?_
  refine x_aload_n C d_La_law_99 rfl rfl ?_
  refine x_iload C d_La_law_100 rfl ?_
  refine x_iconst (v := 2) C d_La_law_102 (by decide) ?_
  refine x_iadd C d_La_law_103 ?_
  refine x_sld C d_La_law_104 (law_in (k := 2) hi hL (by decide)) ?_
  refine x_aload_n C d_La_law_105 rfl rfl ?_
  refine x_callSW C mk_feed yw_feed d_La_law_106 hW (by rfl) (by rfl) (by decide) (by decide) (Nat.le_of_ble_eq_true rfl) ?_
  rintro v1 h1 hQ
  obtain ⟨k9, rfl, ⟨fs, fm⟩, d', Q, hd', hM, hend2⟩ := hend v1 h1 hQ
  refine x_istore (lv' := [(5, _), (4, _), (3, _), (2, _), (1, _), (0, _)]) C d_La_law_109 (by decide) (by rfl) ?_
  refine x_aload_n C d_La_law_111 rfl rfl ?_
  refine x_aload_n C d_La_law_112 rfl rfl ?_
  refine x_iload C d_La_law_113 rfl ?_
  refine x_iconst (v := 1) C d_La_law_115 (by decide) ?_
  refine x_iadd C d_La_law_116 ?_
  refine x_sld C d_La_law_117 (law_in (k := 1) hi hL (by decide)) ?_
  refine x_aload_n C d_La_law_118 rfl rfl ?_
  refine x_iload C d_La_law_119 rfl ?_
  refine x_iconst (v := 2) C d_La_law_121 (by decide) ?_
  refine x_iadd C d_La_law_122 ?_
  refine x_sld C d_La_law_123 (law_in (k := 2) hi hL (by decide)) ?_
  refine x_callV C l_La_50 v_Mo_feed d_La_law_124 hM fm rfl (by rfl) (by rfl) (by omega) (by decide) (Nat.le_of_ble_eq_true rfl) ?_
  rintro v h2 hQ2
  obtain ⟨bb, rfl, hI2, ⟨fs2, fm2, hl2, g02⟩, ho⟩ := hend2 v h2 hQ2
  refine x_istore (lv' := [(6, _), (5, _), (4, _), (3, _), (2, _), (1, _), (0, _)]) C d_La_law_127 (by decide) (by rfl) ?_
  refine x_aload_n C d_La_law_129 rfl rfl ?_
  refine x_callV C l_La_51 v_Mo_thrown d_La_law_130 (m_Mo_thrown fm2 hl2 g02) fm2 rfl (by rfl) (by rfl) (by decide) (by decide) (Nat.le_of_ble_eq_true rfl) ?_
  rintro v9 h9 ⟨rfl, rfl⟩
  refine x_iload C d_La_law_133 rfl ?_
  refine x_icmp_eq (tgt := 140) C d_La_law_135 rfl (fun _ => ?_) (fun q => absurd rfl q)
  refine x_iload C d_La_law_140 rfl ?_
  refine x_if_ne (tgt := 157) C d_La_law_142 rfl (fun _ => ?_) (fun q9 => ?_)
  · skip
    refine x_goto (tgt := 536) C d_La_law_157 rfl ?_
    exact x_lv [2, 3, 4, 5, 6] C (by rfl) (kk _ hI2)
  obtain ⟨o, fo, eo⟩ := ho q9
  refine x_aload_n C d_La_law_145 rfl rfl ?_
  refine x_iconst (v := 0) C d_La_law_146 (by decide) ?_
  refine x_lald C d_La_law_147 fo (vp_in_nI (n := 0) (by decide) (by decide)) ?_
  refine x_iload C d_La_law_148 rfl ?_
  refine x_i2l C d_La_law_150 ?_
  refine x_lcmp C d_La_law_151 ?_
  refine x_if_eq (tgt := 157) C d_La_law_152 rfl (fun _ => ?_) (fun q => absurd (law_cmp eo) q)
  refine x_goto (tgt := 536) C d_La_law_157 rfl ?_
  exact x_lv [2, 3, 4, 5, 6] C (by rfl) (kk _ hI2)
set_option maxRecDepth 20000 in
set_option maxHeartbeats 1000000 in
theorem law_prepare {V : xV} {K : xK} {b L : Nat} {xs : Nat → Int32} {A : Nat → Nat} {h : xH} {mc ms i : Nat} (C : lawC V K b L xs) (hI : INV V A h) (hi : i + 4 ≤ L) (hL : L ≤ 2048) (kk : ∀ h2, INV V A h2 → K mc ms h2 536 (lawV A b i) []) : K (mc + 49) (ms + 136) h 160 (lawV A b i) [] := by
  obtain ⟨d1, Q0, hd1, hC, hend⟩ := step_prepare hI
  obtain ⟨fx9, fx⟩ := hI.obj
  unfold lawV at kk ⊢
  refine x_aload_n C d_La_law_160 rfl rfl ?_
  refine x_callV C l_La_54 v_CB_prepare d_La_law_161 hC fx rfl (by rfl) (by rfl) (by omega) (by decide) (Nat.le_of_ble_eq_true rfl) ?_
  rintro v1 h1 hQ
  obtain ⟨⟨fs, fm⟩, d', Q, hd', hM, hend2⟩ := hend v1 h1 hQ
  refine x_aload_n C d_La_law_164 rfl rfl ?_
  refine x_callV C l_La_57 v_Mo_prepare d_La_law_165 hM fm rfl (by rfl) (by rfl) (by omega) (by decide) (law_cat v1) ?_
  rintro v h2 hQ2
  obtain ⟨an, rfl, rfl, hI2⟩ := hend2 v h2 hQ2
  exact x_icmp_eq (tgt := 536) C d_La_law_168 rfl (fun _ => kk _ hI2) (fun q => absurd rfl q)
set_option maxRecDepth 20000 in
set_option maxHeartbeats 1000000 in
theorem law_step {V : xV} {K : xK} {b L : Nat} {xs : Nat → Int32} {A : Nat → Nat} {h : xH} {mc ms i : Nat} (C : lawC V K b L xs) (hI : INV V A h) (hi : i + 4 ≤ L) (hL : L ≤ 2048) (kk : ∀ h2, INV V A h2 → K mc ms h2 536 (lawV A b i) []) : K (mc + 49) (ms + 136) h 173 (lawV A b i) [] := by
  obtain ⟨mc', ms', Q0, hmc, hms, hW, hend⟩ := step_step hI
  refine x_mono (mc := mc + mc') (ms := ms + ms') C (by omega) (by omega) ?_
  unfold lawV
  refine x_aload_n C d_La_law_173 rfl rfl ?_
  refine x_aload_n C d_La_law_174 rfl rfl ?_
  refine x_callSW C mk_step yw_step d_La_law_175 hW (by rfl) (by rfl) (by decide) (by decide) (Nat.le_of_ble_eq_true rfl) ?_
  rintro v1 h1 hQ
  obtain ⟨k9, rfl, ⟨fs, fm⟩, d', Q, hd', hM, hend2⟩ := hend v1 h1 hQ
  refine x_istore (lv' := [(5, _), (4, _), (3, _), (2, _), (1, _), (0, _)]) C d_La_law_178 (by decide) (by rfl) ?_
  refine x_aload_n C d_La_law_180 rfl rfl ?_
  refine x_callV C l_La_61 v_Mo_step d_La_law_181 hM fm rfl (by rfl) (by rfl) (by omega) (by decide) (Nat.le_of_ble_eq_true rfl) ?_
  rintro v h2 hQ2
  obtain ⟨bb, rfl, hI2, ⟨fs2, fm2, hl2, g02⟩, ho⟩ := hend2 v h2 hQ2
  refine x_istore (lv' := [(6, _), (5, _), (4, _), (3, _), (2, _), (1, _), (0, _)]) C d_La_law_184 (by decide) (by rfl) ?_
  refine x_aload_n C d_La_law_186 rfl rfl ?_
  refine x_callV C l_La_51 v_Mo_thrown d_La_law_187 (m_Mo_thrown fm2 hl2 g02) fm2 rfl (by rfl) (by rfl) (by decide) (by decide) (Nat.le_of_ble_eq_true rfl) ?_
  rintro v9 h9 ⟨rfl, rfl⟩
  refine x_iload C d_La_law_190 rfl ?_
  refine x_icmp_eq (tgt := 197) C d_La_law_192 rfl (fun _ => ?_) (fun q => absurd rfl q)
  refine x_iload C d_La_law_197 rfl ?_
  refine x_if_ne (tgt := 214) C d_La_law_199 rfl (fun _ => ?_) (fun q9 => ?_)
  · skip
    refine x_goto (tgt := 536) C d_La_law_214 rfl ?_
    exact x_lv [2, 3, 4, 5, 6] C (by rfl) (kk _ hI2)
  obtain ⟨o, fo, eo⟩ := ho q9
  refine x_aload_n C d_La_law_202 rfl rfl ?_
  refine x_iconst (v := 0) C d_La_law_203 (by decide) ?_
  refine x_lald C d_La_law_204 fo (vp_in_nI (n := 0) (by decide) (by decide)) ?_
  refine x_iload C d_La_law_205 rfl ?_
  refine x_i2l C d_La_law_207 ?_
  refine x_lcmp C d_La_law_208 ?_
  refine x_if_eq (tgt := 214) C d_La_law_209 rfl (fun _ => ?_) (fun q => absurd (law_cmp eo) q)
  refine x_goto (tgt := 536) C d_La_law_214 rfl ?_
  exact x_lv [2, 3, 4, 5, 6] C (by rfl) (kk _ hI2)
set_option maxRecDepth 20000 in
set_option maxHeartbeats 1000000 in
theorem law_reset {V : xV} {K : xK} {b L : Nat} {xs : Nat → Int32} {A : Nat → Nat} {h : xH} {mc ms i : Nat} (C : lawC V K b L xs) (hI : INV V A h) (hi : i + 4 ≤ L) (hL : L ≤ 2048) (kk : ∀ h2, INV V A h2 → K mc ms h2 536 (lawV A b i) []) : K (mc + 49) (ms + 136) h 217 (lawV A b i) [] := by
  obtain ⟨mc', ms', Q0, hmc, hms, hW, hend⟩ := step_reset hI
  refine x_mono (mc := mc + mc') (ms := ms + ms') C (by omega) (by omega) ?_
  unfold lawV
  refine x_aload_n C d_La_law_217 rfl rfl ?_
  refine x_aload_n C d_La_law_218 rfl rfl ?_
  refine x_callSW C mk_reset yw_reset d_La_law_219 hW (by rfl) (by rfl) (by decide) (by decide) (Nat.le_of_ble_eq_true rfl) ?_
  rintro v1 h1 hQ
  obtain ⟨k9, rfl, ⟨fs, fm⟩, d', Q, hd', hM, hend2⟩ := hend v1 h1 hQ
  refine x_istore (lv' := [(5, _), (4, _), (3, _), (2, _), (1, _), (0, _)]) C d_La_law_222 (by decide) (by rfl) ?_
  refine x_aload_n C d_La_law_224 rfl rfl ?_
  refine x_callV C l_La_64 v_Mo_reset d_La_law_225 hM fm rfl (by rfl) (by rfl) (by omega) (by decide) (Nat.le_of_ble_eq_true rfl) ?_
  rintro v h2 hQ2
  obtain ⟨bb, rfl, hI2, ⟨fs2, fm2, hl2, g02⟩, ho⟩ := hend2 v h2 hQ2
  refine x_istore (lv' := [(6, _), (5, _), (4, _), (3, _), (2, _), (1, _), (0, _)]) C d_La_law_228 (by decide) (by rfl) ?_
  refine x_aload_n C d_La_law_230 rfl rfl ?_
  refine x_callV C l_La_51 v_Mo_thrown d_La_law_231 (m_Mo_thrown fm2 hl2 g02) fm2 rfl (by rfl) (by rfl) (by decide) (by decide) (Nat.le_of_ble_eq_true rfl) ?_
  rintro v9 h9 ⟨rfl, rfl⟩
  refine x_iload C d_La_law_234 rfl ?_
  refine x_icmp_eq (tgt := 241) C d_La_law_236 rfl (fun _ => ?_) (fun q => absurd rfl q)
  refine x_iload C d_La_law_241 rfl ?_
  refine x_if_ne (tgt := 258) C d_La_law_243 rfl (fun _ => ?_) (fun q9 => ?_)
  · skip
    refine x_goto (tgt := 536) C d_La_law_258 rfl ?_
    exact x_lv [2, 3, 4, 5, 6] C (by rfl) (kk _ hI2)
  obtain ⟨o, fo, eo⟩ := ho q9
  refine x_aload_n C d_La_law_246 rfl rfl ?_
  refine x_iconst (v := 0) C d_La_law_247 (by decide) ?_
  refine x_lald C d_La_law_248 fo (vp_in_nI (n := 0) (by decide) (by decide)) ?_
  refine x_iload C d_La_law_249 rfl ?_
  refine x_i2l C d_La_law_251 ?_
  refine x_lcmp C d_La_law_252 ?_
  refine x_if_eq (tgt := 258) C d_La_law_253 rfl (fun _ => ?_) (fun q => absurd (law_cmp eo) q)
  refine x_goto (tgt := 536) C d_La_law_258 rfl ?_
  exact x_lv [2, 3, 4, 5, 6] C (by rfl) (kk _ hI2)
set_option maxRecDepth 20000 in
set_option maxHeartbeats 1000000 in
theorem law_width {V : xV} {K : xK} {b L : Nat} {xs : Nat → Int32} {A : Nat → Nat} {h : xH} {mc ms i : Nat} (C : lawC V K b L xs) (hI : INV V A h) (hi : i + 4 ≤ L) (hL : L ≤ 2048) (kk : ∀ h2, INV V A h2 → K mc ms h2 536 (lawV A b i) []) : K (mc + 49) (ms + 136) h 261 (lawV A b i) [] := by
  obtain ⟨mc', ms', Q0, hmc, hms, hW, hend⟩ := step_width hI
  refine x_mono (mc := mc + mc') (ms := ms + ms') C (by omega) (by omega) ?_
  unfold lawV
  refine x_aload_n C d_La_law_261 rfl rfl ?_
  refine x_aload_n C d_La_law_262 rfl rfl ?_
  refine x_callSW C mk_width yw_width d_La_law_263 hW (by rfl) (by rfl) (by decide) (by decide) (Nat.le_of_ble_eq_true rfl) ?_
  rintro v1 h1 hQ
  obtain ⟨k9, rfl, ⟨fs, fm⟩, d', Q, hd', hM, hend2⟩ := hend v1 h1 hQ
  refine x_istore (lv' := [(5, _), (4, _), (3, _), (2, _), (1, _), (0, _)]) C d_La_law_266 (by decide) (by rfl) ?_
  refine x_aload_n C d_La_law_268 rfl rfl ?_
  refine x_callV C l_La_67 v_Mo_width d_La_law_269 hM fm rfl (by rfl) (by rfl) (by omega) (by decide) (Nat.le_of_ble_eq_true rfl) ?_
  rintro v h2 hQ2
  obtain ⟨bb, rfl, hI2, ⟨fs2, fm2, hl2, g02⟩, ho⟩ := hend2 v h2 hQ2
  refine x_istore (lv' := [(6, _), (5, _), (4, _), (3, _), (2, _), (1, _), (0, _)]) C d_La_law_272 (by decide) (by rfl) ?_
  refine x_aload_n C d_La_law_274 rfl rfl ?_
  refine x_callV C l_La_51 v_Mo_thrown d_La_law_275 (m_Mo_thrown fm2 hl2 g02) fm2 rfl (by rfl) (by rfl) (by decide) (by decide) (Nat.le_of_ble_eq_true rfl) ?_
  rintro v9 h9 ⟨rfl, rfl⟩
  refine x_iload C d_La_law_278 rfl ?_
  refine x_icmp_eq (tgt := 285) C d_La_law_280 rfl (fun _ => ?_) (fun q => absurd rfl q)
  refine x_iload C d_La_law_285 rfl ?_
  refine x_if_ne (tgt := 302) C d_La_law_287 rfl (fun _ => ?_) (fun q9 => ?_)
  · skip
    refine x_goto (tgt := 536) C d_La_law_302 rfl ?_
    exact x_lv [2, 3, 4, 5, 6] C (by rfl) (kk _ hI2)
  obtain ⟨o, fo, eo⟩ := ho q9
  refine x_aload_n C d_La_law_290 rfl rfl ?_
  refine x_iconst (v := 0) C d_La_law_291 (by decide) ?_
  refine x_lald C d_La_law_292 fo (vp_in_nI (n := 0) (by decide) (by decide)) ?_
  refine x_iload C d_La_law_293 rfl ?_
  refine x_i2l C d_La_law_295 ?_
  refine x_lcmp C d_La_law_296 ?_
  refine x_if_eq (tgt := 302) C d_La_law_297 rfl (fun _ => ?_) (fun q => absurd (law_cmp eo) q)
  refine x_goto (tgt := 536) C d_La_law_302 rfl ?_
  exact x_lv [2, 3, 4, 5, 6] C (by rfl) (kk _ hI2)
set_option maxRecDepth 20000 in
set_option maxHeartbeats 1000000 in
theorem law_column {V : xV} {K : xK} {b L : Nat} {xs : Nat → Int32} {A : Nat → Nat} {h : xH} {mc ms i : Nat} (C : lawC V K b L xs) (hI : INV V A h) (hi : i + 4 ≤ L) (hL : L ≤ 2048) (kk : ∀ h2, INV V A h2 → K mc ms h2 536 (lawV A b i) []) : K (mc + 49) (ms + 136) h 305 (lawV A b i) [] := by
  obtain ⟨mc', ms', Q0, hmc, hms, hW, hend⟩ := step_column hI (xs (nI i + 1).toNatClampNeg)
  refine x_mono (mc := mc + mc') (ms := ms + ms') C (by omega) (by omega) ?_
  unfold lawV
  refine x_aload_n C d_La_law_305 rfl rfl ?_
  refine x_aload_n C d_La_law_306 rfl rfl ?_
  refine x_iload C d_La_law_307 rfl ?_
  refine x_iconst (v := 1) C d_La_law_309 (by decide) ?_
  refine x_iadd C d_La_law_310 ?_
  refine x_sld C d_La_law_311 (law_in (k := 1) hi hL (by decide)) ?_
  refine x_aload_n C d_La_law_312 rfl rfl ?_
  refine x_callSW C mk_column yw_column d_La_law_313 hW (by rfl) (by rfl) (by decide) (by decide) (Nat.le_of_ble_eq_true rfl) ?_
  rintro v1 h1 hQ
  obtain ⟨k9, rfl, ⟨fs, fm⟩, d', Q, hd', hM, hend2⟩ := hend v1 h1 hQ
  refine x_istore (lv' := [(5, _), (4, _), (3, _), (2, _), (1, _), (0, _)]) C d_La_law_316 (by decide) (by rfl) ?_
  refine x_aload_n C d_La_law_318 rfl rfl ?_
  refine x_aload_n C d_La_law_319 rfl rfl ?_
  refine x_iload C d_La_law_320 rfl ?_
  refine x_iconst (v := 1) C d_La_law_322 (by decide) ?_
  refine x_iadd C d_La_law_323 ?_
  refine x_sld C d_La_law_324 (law_in (k := 1) hi hL (by decide)) ?_
  refine x_callV C l_La_71 v_Mo_column d_La_law_325 hM fm rfl (by rfl) (by rfl) (by omega) (by decide) (Nat.le_of_ble_eq_true rfl) ?_
  rintro v h2 hQ2
  obtain ⟨bb, rfl, hI2, ⟨fs2, fm2, hl2, g02⟩, ho⟩ := hend2 v h2 hQ2
  refine x_lstore (lv' := [(6, _), (5, _), (4, _), (3, _), (2, _), (1, _), (0, _)]) C d_La_law_328 (by decide) (by rfl) ?_
  refine x_aload_n C d_La_law_330 rfl rfl ?_
  refine x_callV C l_La_51 v_Mo_thrown d_La_law_331 (m_Mo_thrown fm2 hl2 g02) fm2 rfl (by rfl) (by rfl) (by decide) (by decide) (Nat.le_of_ble_eq_true rfl) ?_
  rintro v9 h9 ⟨rfl, rfl⟩
  refine x_iload C d_La_law_334 rfl ?_
  refine x_icmp_eq (tgt := 341) C d_La_law_336 rfl (fun _ => ?_) (fun q => absurd rfl q)
  refine x_iload C d_La_law_341 rfl ?_
  refine x_if_ne (tgt := 357) C d_La_law_343 rfl (fun _ => ?_) (fun q9 => ?_)
  · skip
    refine x_goto (tgt := 536) C d_La_law_357 rfl ?_
    exact x_lv [2, 3, 4, 5, 6] C (by rfl) (kk _ hI2)
  obtain ⟨o, fo, eo⟩ := ho q9
  refine x_aload_n C d_La_law_346 rfl rfl ?_
  refine x_iconst (v := 0) C d_La_law_347 (by decide) ?_
  refine x_lald C d_La_law_348 fo (vp_in_nI (n := 0) (by decide) (by decide)) ?_
  refine x_lload C d_La_law_349 rfl ?_
  refine x_lcmp C d_La_law_351 ?_
  refine x_if_eq (tgt := 357) C d_La_law_352 rfl (fun _ => ?_) (fun q => absurd (law_cmp eo) q)
  refine x_goto (tgt := 536) C d_La_law_357 rfl ?_
  exact x_lv [2, 3, 4, 5, 6] C (by rfl) (kk _ hI2)
set_option maxRecDepth 20000 in
set_option maxHeartbeats 1000000 in
theorem law_rows {V : xV} {K : xK} {b L : Nat} {xs : Nat → Int32} {A : Nat → Nat} {h : xH} {mc ms i : Nat} (C : lawC V K b L xs) (hI : INV V A h) (hi : i + 4 ≤ L) (hL : L ≤ 2048) (kk : ∀ h2, INV V A h2 → K mc ms h2 536 (lawV A b i) []) : K (mc + 49) (ms + 136) h 360 (lawV A b i) [] := by
  obtain ⟨mc', ms', Q0, hmc, hms, hW, hend⟩ := step_rows hI (xs (nI i + 1).toNatClampNeg)
  refine x_mono (mc := mc + mc') (ms := ms + ms') C (by omega) (by omega) ?_
  unfold lawV
  refine x_aload_n C d_La_law_360 rfl rfl ?_
  refine x_aload_n C d_La_law_361 rfl rfl ?_
  refine x_iload C d_La_law_362 rfl ?_
  refine x_iconst (v := 1) C d_La_law_364 (by decide) ?_
  refine x_iadd C d_La_law_365 ?_
  refine x_sld C d_La_law_366 (law_in (k := 1) hi hL (by decide)) ?_
  refine x_aload_n C d_La_law_367 rfl rfl ?_
  refine x_callSW C mk_rows yw_rows d_La_law_368 hW (by rfl) (by rfl) (by decide) (by decide) (Nat.le_of_ble_eq_true rfl) ?_
  rintro v1 h1 hQ
  obtain ⟨k9, rfl, ⟨fs, fm⟩, d', Q, hd', hM, hend2⟩ := hend v1 h1 hQ
  refine x_istore (lv' := [(5, _), (4, _), (3, _), (2, _), (1, _), (0, _)]) C d_La_law_371 (by decide) (by rfl) ?_
  refine x_aload_n C d_La_law_373 rfl rfl ?_
  refine x_aload_n C d_La_law_374 rfl rfl ?_
  refine x_iload C d_La_law_375 rfl ?_
  refine x_iconst (v := 1) C d_La_law_377 (by decide) ?_
  refine x_iadd C d_La_law_378 ?_
  refine x_sld C d_La_law_379 (law_in (k := 1) hi hL (by decide)) ?_
  refine x_callV C l_La_74 v_Mo_rows d_La_law_380 hM fm rfl (by rfl) (by rfl) (by omega) (by decide) (Nat.le_of_ble_eq_true rfl) ?_
  rintro v h2 hQ2
  obtain ⟨bb, rfl, hI2, ⟨fs2, fm2, hl2, g02⟩, ho⟩ := hend2 v h2 hQ2
  refine x_istore (lv' := [(6, _), (5, _), (4, _), (3, _), (2, _), (1, _), (0, _)]) C d_La_law_383 (by decide) (by rfl) ?_
  refine x_aload_n C d_La_law_385 rfl rfl ?_
  refine x_callV C l_La_51 v_Mo_thrown d_La_law_386 (m_Mo_thrown fm2 hl2 g02) fm2 rfl (by rfl) (by rfl) (by decide) (by decide) (Nat.le_of_ble_eq_true rfl) ?_
  rintro v9 h9 ⟨rfl, rfl⟩
  refine x_iload C d_La_law_389 rfl ?_
  refine x_icmp_eq (tgt := 396) C d_La_law_391 rfl (fun _ => ?_) (fun q => absurd rfl q)
  refine x_iload C d_La_law_396 rfl ?_
  refine x_if_ne (tgt := 413) C d_La_law_398 rfl (fun _ => ?_) (fun q9 => ?_)
  · skip
    refine x_goto (tgt := 536) C d_La_law_413 rfl ?_
    exact x_lv [2, 3, 4, 5, 6] C (by rfl) (kk _ hI2)
  obtain ⟨o, fo, eo⟩ := ho q9
  refine x_aload_n C d_La_law_401 rfl rfl ?_
  refine x_iconst (v := 0) C d_La_law_402 (by decide) ?_
  refine x_lald C d_La_law_403 fo (vp_in_nI (n := 0) (by decide) (by decide)) ?_
  refine x_iload C d_La_law_404 rfl ?_
  refine x_i2l C d_La_law_406 ?_
  refine x_lcmp C d_La_law_407 ?_
  refine x_if_eq (tgt := 413) C d_La_law_408 rfl (fun _ => ?_) (fun q => absurd (law_cmp eo) q)
  refine x_goto (tgt := 536) C d_La_law_413 rfl ?_
  exact x_lv [2, 3, 4, 5, 6] C (by rfl) (kk _ hI2)
set_option maxRecDepth 20000 in
set_option maxHeartbeats 1000000 in
theorem law_all {V : xV} {K : xK} {b L : Nat} {xs : Nat → Int32} {A : Nat → Nat} {h : xH} {mc ms i : Nat} (C : lawC V K b L xs) (hI : INV V A h) (hi : i + 4 ≤ L) (hL : L ≤ 2048) (kk : ∀ h2, INV V A h2 → K mc ms h2 536 (lawV A b i) []) : K (mc + 49) (ms + 136) h 416 (lawV A b i) [] := by
  obtain ⟨d1, Q0, hd1, hC, hend⟩ := step_all hI
  obtain ⟨fx9, fx⟩ := hI.obj
  unfold lawV at kk ⊢
  refine x_mono (mc := mc) (ms := ms) C (by omega) (by omega) ?_
  refine x_aload_n C d_La_law_416 rfl rfl ?_
  refine x_callV C l_La_75 v_CB_all d_La_law_417 hC fx rfl (by rfl) (by rfl) (by omega) (by decide) (Nat.le_of_ble_eq_true rfl) ?_
  rintro v1 h1 hQ
  obtain ⟨⟨fs, fm⟩, d', Q, hd', hM, hend2⟩ := hend v1 h1 hQ
  refine x_aload_n C d_La_law_420 rfl rfl ?_
  refine x_callV C l_La_78 v_Mo_all d_La_law_421 hM fm rfl (by rfl) (by rfl) (by omega) (by decide) (law_cat v1) ?_
  rintro v h2 hQ2
  obtain ⟨an, rfl, rfl, hI2⟩ := hend2 v h2 hQ2
  exact x_icmp_eq (tgt := 536) C d_La_law_424 rfl (fun _ => kk _ hI2) (fun q => absurd rfl q)
set_option maxRecDepth 20000 in
set_option maxHeartbeats 1000000 in
theorem law_nearest0 {V : xV} {K : xK} {b L : Nat} {xs : Nat → Int32} {A : Nat → Nat} {h : xH} {mc ms i : Nat} (C : lawC V K b L xs) (hI : INV V A h) (hi : i + 4 ≤ L) (hL : L ≤ 2048) (kk : ∀ h2, INV V A h2 → K mc ms h2 536 (lawV A b i) []) (hz : xs (nI i + 3).toNatClampNeg = 0) : K (mc + 49) (ms + 136) h 429 (lawV A b i) [] := by
  obtain ⟨mc', ms', Q0, hmc, hms, hW, hend⟩ := step_nearest hI (xs (nI i + 1).toNatClampNeg) (xs (nI i + 2).toNatClampNeg) 0
  refine x_mono (mc := mc + mc') (ms := ms + ms') C (by omega) (by omega) ?_
  unfold lawV
  refine x_aload_n C d_La_law_429 rfl rfl ?_
  refine x_aload_n C d_La_law_430 rfl rfl ?_
  refine x_iload C d_La_law_431 rfl ?_
  refine x_iconst (v := 1) C d_La_law_433 (by decide) ?_
  refine x_iadd C d_La_law_434 ?_
  refine x_sld C d_La_law_435 (law_in (k := 1) hi hL (by decide)) ?_
  refine x_aload_n C d_La_law_436 rfl rfl ?_
  refine x_iload C d_La_law_437 rfl ?_
  refine x_iconst (v := 2) C d_La_law_439 (by decide) ?_
  refine x_iadd C d_La_law_440 ?_
  refine x_sld C d_La_law_441 (law_in (k := 2) hi hL (by decide)) ?_
  refine x_aload_n C d_La_law_442 rfl rfl ?_
  refine x_iload C d_La_law_443 rfl ?_
  refine x_iconst (v := 3) C d_La_law_445 (by decide) ?_
  refine x_iadd C d_La_law_446 ?_
  refine x_sld C d_La_law_447 (law_in (k := 3) hi hL (by decide)) ?_
  refine x_if_eq (tgt := 455) C d_La_law_448 rfl (fun _ => ?_) (fun q => absurd hz q)
  refine x_iconst (v := 0) C d_La_law_455 (by decide) ?_
  refine x_aload_n C d_La_law_456 rfl rfl ?_
  refine x_callSW C mk_nearest yw_nearest d_La_law_457 hW (by rfl) (by rfl) (by decide) (by decide) (Nat.le_of_ble_eq_true rfl) ?_
  rintro v1 h1 hQ
  obtain ⟨k9, rfl, ⟨fs, fm⟩, d', Q, hd', hM, hend2⟩ := hend v1 h1 hQ
  refine x_istore (lv' := [(5, _), (4, _), (3, _), (2, _), (1, _), (0, _)]) C d_La_law_460 (by decide) (by rfl) ?_
  refine x_aload_n C d_La_law_462 rfl rfl ?_
  refine x_aload_n C d_La_law_463 rfl rfl ?_
  refine x_iload C d_La_law_464 rfl ?_
  refine x_iconst (v := 1) C d_La_law_466 (by decide) ?_
  refine x_iadd C d_La_law_467 ?_
  refine x_sld C d_La_law_468 (law_in (k := 1) hi hL (by decide)) ?_
  refine x_aload_n C d_La_law_469 rfl rfl ?_
  refine x_iload C d_La_law_470 rfl ?_
  refine x_iconst (v := 2) C d_La_law_472 (by decide) ?_
  refine x_iadd C d_La_law_473 ?_
  refine x_sld C d_La_law_474 (law_in (k := 2) hi hL (by decide)) ?_
  refine x_aload_n C d_La_law_475 rfl rfl ?_
  refine x_iload C d_La_law_476 rfl ?_
  refine x_iconst (v := 3) C d_La_law_478 (by decide) ?_
  refine x_iadd C d_La_law_479 ?_
  refine x_sld C d_La_law_480 (law_in (k := 3) hi hL (by decide)) ?_
  refine x_if_eq (tgt := 488) C d_La_law_481 rfl (fun _ => ?_) (fun q => absurd hz q)
  refine x_iconst (v := 0) C d_La_law_488 (by decide) ?_
  refine x_callV C l_La_82 v_Mo_nearest d_La_law_489 hM fm rfl (by rfl) (by rfl) (by omega) (by decide) (Nat.le_of_ble_eq_true rfl) ?_
  rintro v h2 hQ2
  obtain ⟨bb, rfl, hI2, ⟨fs2, fm2, hl2, g02⟩, ho⟩ := hend2 v h2 hQ2
  refine x_istore (lv' := [(6, _), (5, _), (4, _), (3, _), (2, _), (1, _), (0, _)]) C d_La_law_492 (by decide) (by rfl) ?_
  refine x_aload_n C d_La_law_494 rfl rfl ?_
  refine x_callV C l_La_51 v_Mo_thrown d_La_law_495 (m_Mo_thrown fm2 hl2 g02) fm2 rfl (by rfl) (by rfl) (by decide) (by decide) (Nat.le_of_ble_eq_true rfl) ?_
  rintro v9 h9 ⟨rfl, rfl⟩
  refine x_iload C d_La_law_498 rfl ?_
  refine x_icmp_eq (tgt := 505) C d_La_law_500 rfl (fun _ => ?_) (fun q => absurd rfl q)
  refine x_iload C d_La_law_505 rfl ?_
  refine x_if_ne (tgt := 522) C d_La_law_507 rfl (fun _ => ?_) (fun q9 => ?_)
  · skip
    refine x_goto (tgt := 536) C d_La_law_522 rfl ?_
    exact x_lv [2, 3, 4, 5, 6] C (by rfl) (kk _ hI2)
  obtain ⟨o, fo, eo⟩ := ho q9
  refine x_aload_n C d_La_law_510 rfl rfl ?_
  refine x_iconst (v := 0) C d_La_law_511 (by decide) ?_
  refine x_lald C d_La_law_512 fo (vp_in_nI (n := 0) (by decide) (by decide)) ?_
  refine x_iload C d_La_law_513 rfl ?_
  refine x_i2l C d_La_law_515 ?_
  refine x_lcmp C d_La_law_516 ?_
  refine x_if_eq (tgt := 522) C d_La_law_517 rfl (fun _ => ?_) (fun q => absurd (law_cmp eo) q)
  refine x_goto (tgt := 536) C d_La_law_522 rfl ?_
  exact x_lv [2, 3, 4, 5, 6] C (by rfl) (kk _ hI2)
set_option maxRecDepth 20000 in
set_option maxHeartbeats 1000000 in
theorem law_nearest1 {V : xV} {K : xK} {b L : Nat} {xs : Nat → Int32} {A : Nat → Nat} {h : xH} {mc ms i : Nat} (C : lawC V K b L xs) (hI : INV V A h) (hi : i + 4 ≤ L) (hL : L ≤ 2048) (kk : ∀ h2, INV V A h2 → K mc ms h2 536 (lawV A b i) []) (hz : ¬ xs (nI i + 3).toNatClampNeg = 0) : K (mc + 49) (ms + 136) h 429 (lawV A b i) [] := by
  obtain ⟨mc', ms', Q0, hmc, hms, hW, hend⟩ := step_nearest hI (xs (nI i + 1).toNatClampNeg) (xs (nI i + 2).toNatClampNeg) 1
  refine x_mono (mc := mc + mc') (ms := ms + ms') C (by omega) (by omega) ?_
  unfold lawV
  refine x_aload_n C d_La_law_429 rfl rfl ?_
  refine x_aload_n C d_La_law_430 rfl rfl ?_
  refine x_iload C d_La_law_431 rfl ?_
  refine x_iconst (v := 1) C d_La_law_433 (by decide) ?_
  refine x_iadd C d_La_law_434 ?_
  refine x_sld C d_La_law_435 (law_in (k := 1) hi hL (by decide)) ?_
  refine x_aload_n C d_La_law_436 rfl rfl ?_
  refine x_iload C d_La_law_437 rfl ?_
  refine x_iconst (v := 2) C d_La_law_439 (by decide) ?_
  refine x_iadd C d_La_law_440 ?_
  refine x_sld C d_La_law_441 (law_in (k := 2) hi hL (by decide)) ?_
  refine x_aload_n C d_La_law_442 rfl rfl ?_
  refine x_iload C d_La_law_443 rfl ?_
  refine x_iconst (v := 3) C d_La_law_445 (by decide) ?_
  refine x_iadd C d_La_law_446 ?_
  refine x_sld C d_La_law_447 (law_in (k := 3) hi hL (by decide)) ?_
  refine x_if_eq (tgt := 455) C d_La_law_448 rfl (fun q => absurd q hz) (fun _ => ?_)
  refine x_iconst (v := 1) C d_La_law_451 (by decide) ?_
  refine x_goto (tgt := 456) C d_La_law_452 rfl ?_
  refine x_aload_n C d_La_law_456 rfl rfl ?_
  refine x_callSW C mk_nearest yw_nearest d_La_law_457 hW (by rfl) (by rfl) (by decide) (by decide) (Nat.le_of_ble_eq_true rfl) ?_
  rintro v1 h1 hQ
  obtain ⟨k9, rfl, ⟨fs, fm⟩, d', Q, hd', hM, hend2⟩ := hend v1 h1 hQ
  refine x_istore (lv' := [(5, _), (4, _), (3, _), (2, _), (1, _), (0, _)]) C d_La_law_460 (by decide) (by rfl) ?_
  refine x_aload_n C d_La_law_462 rfl rfl ?_
  refine x_aload_n C d_La_law_463 rfl rfl ?_
  refine x_iload C d_La_law_464 rfl ?_
  refine x_iconst (v := 1) C d_La_law_466 (by decide) ?_
  refine x_iadd C d_La_law_467 ?_
  refine x_sld C d_La_law_468 (law_in (k := 1) hi hL (by decide)) ?_
  refine x_aload_n C d_La_law_469 rfl rfl ?_
  refine x_iload C d_La_law_470 rfl ?_
  refine x_iconst (v := 2) C d_La_law_472 (by decide) ?_
  refine x_iadd C d_La_law_473 ?_
  refine x_sld C d_La_law_474 (law_in (k := 2) hi hL (by decide)) ?_
  refine x_aload_n C d_La_law_475 rfl rfl ?_
  refine x_iload C d_La_law_476 rfl ?_
  refine x_iconst (v := 3) C d_La_law_478 (by decide) ?_
  refine x_iadd C d_La_law_479 ?_
  refine x_sld C d_La_law_480 (law_in (k := 3) hi hL (by decide)) ?_
  refine x_if_eq (tgt := 488) C d_La_law_481 rfl (fun q => absurd q hz) (fun _ => ?_)
  refine x_iconst (v := 1) C d_La_law_484 (by decide) ?_
  refine x_goto (tgt := 489) C d_La_law_485 rfl ?_
  refine x_callV C l_La_82 v_Mo_nearest d_La_law_489 hM fm rfl (by rfl) (by rfl) (by omega) (by decide) (Nat.le_of_ble_eq_true rfl) ?_
  rintro v h2 hQ2
  obtain ⟨bb, rfl, hI2, ⟨fs2, fm2, hl2, g02⟩, ho⟩ := hend2 v h2 hQ2
  refine x_istore (lv' := [(6, _), (5, _), (4, _), (3, _), (2, _), (1, _), (0, _)]) C d_La_law_492 (by decide) (by rfl) ?_
  refine x_aload_n C d_La_law_494 rfl rfl ?_
  refine x_callV C l_La_51 v_Mo_thrown d_La_law_495 (m_Mo_thrown fm2 hl2 g02) fm2 rfl (by rfl) (by rfl) (by decide) (by decide) (Nat.le_of_ble_eq_true rfl) ?_
  rintro v9 h9 ⟨rfl, rfl⟩
  refine x_iload C d_La_law_498 rfl ?_
  refine x_icmp_eq (tgt := 505) C d_La_law_500 rfl (fun _ => ?_) (fun q => absurd rfl q)
  refine x_iload C d_La_law_505 rfl ?_
  refine x_if_ne (tgt := 522) C d_La_law_507 rfl (fun _ => ?_) (fun q9 => ?_)
  · skip
    refine x_goto (tgt := 536) C d_La_law_522 rfl ?_
    exact x_lv [2, 3, 4, 5, 6] C (by rfl) (kk _ hI2)
  obtain ⟨o, fo, eo⟩ := ho q9
  refine x_aload_n C d_La_law_510 rfl rfl ?_
  refine x_iconst (v := 0) C d_La_law_511 (by decide) ?_
  refine x_lald C d_La_law_512 fo (vp_in_nI (n := 0) (by decide) (by decide)) ?_
  refine x_iload C d_La_law_513 rfl ?_
  refine x_i2l C d_La_law_515 ?_
  refine x_lcmp C d_La_law_516 ?_
  refine x_if_eq (tgt := 522) C d_La_law_517 rfl (fun _ => ?_) (fun q => absurd (law_cmp eo) q)
  refine x_goto (tgt := 536) C d_La_law_522 rfl ?_
  exact x_lv [2, 3, 4, 5, 6] C (by rfl) (kk _ hI2)
set_option maxRecDepth 20000 in
set_option maxHeartbeats 1000000 in
theorem law_clear {V : xV} {K : xK} {b L : Nat} {xs : Nat → Int32} {A : Nat → Nat} {h : xH} {mc ms i : Nat} (C : lawC V K b L xs) (hI : INV V A h) (hi : i + 4 ≤ L) (hL : L ≤ 2048) (kk : ∀ h2, INV V A h2 → K mc ms h2 536 (lawV A b i) []) : K (mc + 49) (ms + 136) h 525 (lawV A b i) [] := by
  obtain ⟨d1, Q0, hd1, hC, hend⟩ := step_clear hI
  obtain ⟨fx9, fx⟩ := hI.obj
  unfold lawV at kk ⊢
  refine x_mono (mc := mc) (ms := ms) C (by omega) (by omega) ?_
  refine x_aload_n C d_La_law_525 rfl rfl ?_
  refine x_callV C l_La_83 v_CB_clear d_La_law_526 hC fx rfl (by rfl) (by rfl) (by omega) (by decide) (Nat.le_of_ble_eq_true rfl) ?_
  rintro v1 h1 hQ
  obtain ⟨⟨fs, fm⟩, d', Q, hd', hM, hend2⟩ := hend v1 h1 hQ
  refine x_aload_n C d_La_law_529 rfl rfl ?_
  refine x_callV C l_La_86 v_Mo_clear d_La_law_530 hM fm rfl (by rfl) (by rfl) (by omega) (by decide) (law_cat v1) ?_
  rintro v h2 hQ2
  obtain ⟨rfl, rfl, hI2⟩ := hend2 v h2 hQ2
  exact x_goto (tgt := 536) C d_La_law_533 rfl (kk _ hI2)
