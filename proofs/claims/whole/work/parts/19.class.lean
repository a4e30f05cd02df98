/-! CursorBase: constructor, all, clear, prepare -/
abbrev oCB (T B U : Nat) : va_E := .inr (7, [.ref T, .ref B, .ref U])
set_option maxRecDepth 20000 in
set_option maxHeartbeats 1000000 in
theorem m_CB_all {V : xV} {h : xH} {x T B U ce co sr : Nat} {f c s : Nat → Int32} (fx : h x = some (oCB T B U)) (pT : pTa V h B ce co sr f c s) : xM V y_CB_all b_CB_all 1 (some .int) 1 [.ref x] h 0 0 (fun v h' => h' = h ∧ v = some (.int (s 10))) := by
  refine xM_of false (by decide) (fun h => nomatch h) (Nat.le_of_ble_eq_true rfl) (fun K C => ?_)
  show K 0 0 h 0 [(0, .ref x)] []
  have pT0 := pT
  obtain ⟨fB, -, -, -⟩ := pT
  refine x_aload_n C d_CB_all_0 rfl rfl ?_
  refine x_get C k_CB f_CB_19 d_CB_all_1 fx (by rfl) ?_
  refine x_callV C l_CB_125 v_Ta_rowsInAll d_CB_all_4 (m_Ta_rowsInAll pT0) fB rfl (by rfl) (by rfl) (by decide) (by decide) (Nat.le_of_ble_eq_true rfl) ?_
  rintro v9 h9 ⟨rfl, rfl⟩
  refine x_iret C d_CB_all_7 ?_
  exact ⟨rfl, rfl⟩
set_option maxRecDepth 20000 in
set_option maxHeartbeats 1000000 in
theorem m_CB_clear {V : xV} {h : xH} {x T kr nr B ce co sr U rd n : Nat} {ks ns f c s g : Nat → Int32} {st : Value} {gv on en fp sp : Int32} {tt : Int64} (fx : h x = some (oCB T B U)) (pK : pTo V h T kr nr ks ns n) (pT : pTa V h B ce co sr f c s) (fU : h U = some (oRu st gv on en fp sp tt rd)) (frd : h rd = some (xI V 16 g)) : xM V y_CB_clear b_CB_clear 1 none 1 [.ref x] h 0 0 (fun v h' => v = none ∧ ∃ c' s', pTo V h' T kr nr ks ns 0 ∧ pTa V h' B ce co sr f c' s' ∧ (∀ i, i < 10 → c' i = 0) ∧ (∀ i, 1 ≤ i → i < 11 → s' i = 0) ∧ s' 0 = s 0 ∧ h' U = some (oRu .null 0 0 0 0 0 tt rd) ∧ xKeep [T, co, sr, U] h h') := by
  refine xM_of false (by decide) (fun h => nomatch h) (Nat.le_of_ble_eq_true rfl) (fun K C => ?_)
  show K 0 0 h 0 [(0, .ref x)] []
  have kp : xKeep [T, co, sr, U] h h := xKeep.rf
  obtain ⟨fT, fkr, fnr, hkn, hn60⟩ := pK
  obtain ⟨fB, fce, fco, fsr⟩ := pT
  refine x_aload_n C d_CB_clear_0 rfl rfl ?_
  refine x_get C k_CB f_CB_10 d_CB_clear_1 fx (by rfl) ?_
  refine x_callV C l_CB_67 v_To_drop d_CB_clear_4 (m_To_drop ⟨fT, fkr, fnr, hkn, hn60⟩) fT rfl (by rfl) (by rfl) (by decide) (by decide) (Nat.le_of_ble_eq_true rfl) ?_
  rintro v1 h1 ⟨rfl, u1⟩
  have fx := xUp_ne u1 fx (by first | assumption | exact Ne.symm (by assumption) | exact x_ne fx fT (by simp))
  have fkr := xUp_ne u1 fkr (by first | assumption | exact Ne.symm (by assumption) | exact x_ne fkr fT (by simp))
  have fnr := xUp_ne u1 fnr (by first | assumption | exact Ne.symm (by assumption) | exact x_ne fnr fT (by simp))
  have fB := xUp_ne u1 fB (by first | assumption | exact Ne.symm (by assumption) | exact x_ne fB fT (by simp))
  have fce := xUp_ne u1 fce (by first | assumption | exact Ne.symm (by assumption) | exact x_ne fce fT (by simp))
  have fco := xUp_ne u1 fco (by first | assumption | exact Ne.symm (by assumption) | exact x_ne fco fT (by simp))
  have fsr := xUp_ne u1 fsr (by first | assumption | exact Ne.symm (by assumption) | exact x_ne fsr fT (by simp))
  have fU := xUp_ne u1 fU (by first | assumption | exact Ne.symm (by assumption) | exact x_ne fU fT (by simp))
  have frd := xUp_ne u1 frd (by first | assumption | exact Ne.symm (by assumption) | exact x_ne frd fT (by simp))
  have fT := xUp_at u1
  have kp := kp.up u1 (by simp)
  refine x_aload_n C d_CB_clear_7 rfl rfl ?_
  refine x_get C k_CB f_CB_19 d_CB_clear_8 fx (by rfl) ?_
  refine x_callV C l_CB_140 v_Ta_drop d_CB_clear_11 (m_Ta_drop ⟨fB, fce, fco, fsr⟩) fB rfl (by rfl) (by rfl) (by decide) (by decide) (Nat.le_of_ble_eq_true rfl) ?_
  rintro v2 h2 ⟨rfl, c', s', pT', hc', hs', hs0, kp2⟩
  have fx := kp2.get fx (nm_c (by first | assumption | exact Ne.symm (by assumption) | exact x_ne fx fco (by simp)) (nm_c (by first | assumption | exact Ne.symm (by assumption) | exact x_ne fx fsr (by simp)) nm_n))
  have fT := kp2.get fT (nm_c (by first | assumption | exact Ne.symm (by assumption) | exact x_ne fT fco (by simp)) (nm_c (by first | assumption | exact Ne.symm (by assumption) | exact x_ne fT fsr (by simp)) nm_n))
  have fkr := kp2.get fkr (nm_c (by first | assumption | exact Ne.symm (by assumption) | exact x_ne fkr fco (by simp)) (nm_c (by first | assumption | exact Ne.symm (by assumption) | exact x_ne fkr fsr (by simp)) nm_n))
  have fnr := kp2.get fnr (nm_c (by first | assumption | exact Ne.symm (by assumption) | exact x_ne fnr fco (by simp)) (nm_c (by first | assumption | exact Ne.symm (by assumption) | exact x_ne fnr fsr (by simp)) nm_n))
  have fB := kp2.get fB (nm_c (by first | assumption | exact Ne.symm (by assumption) | exact x_ne fB fco (by simp)) (nm_c (by first | assumption | exact Ne.symm (by assumption) | exact x_ne fB fsr (by simp)) nm_n))
  have fce := kp2.get fce (nm_c (by first | assumption | exact Ne.symm (by assumption) | exact x_ne fce fco (by simp)) (nm_c (by first | assumption | exact Ne.symm (by assumption) | exact x_ne fce fsr (by simp)) nm_n))
  have fU := kp2.get fU (nm_c (by first | assumption | exact Ne.symm (by assumption) | exact x_ne fU fco (by simp)) (nm_c (by first | assumption | exact Ne.symm (by assumption) | exact x_ne fU fsr (by simp)) nm_n))
  have frd := kp2.get frd (nm_c (by first | assumption | exact Ne.symm (by assumption) | exact x_ne frd fco (by simp)) (nm_c (by first | assumption | exact Ne.symm (by assumption) | exact x_ne frd fsr (by simp)) nm_n))
  have kp := kp.call kp2 (kc_c (Or.inl (by simp)) (kc_c (Or.inl (by simp)) kc_n))
  have fco := pT'.2.2.1
  have fsr := pT'.2.2.2
  refine x_aload_n C d_CB_clear_14 rfl rfl ?_
  refine x_get C k_CB f_CB_26 d_CB_clear_15 fx (by rfl) ?_
  refine x_null C d_CB_clear_18 ?_
  refine x_callV C l_CB_80 v_Ru_begin d_CB_clear_19 (m_Ru_beginN fU) fU rfl (by rfl) (by rfl) (by decide) (by decide) (Nat.le_of_ble_eq_true rfl) ?_
  rintro v3 h3 ⟨rfl, fU', kp3⟩
  have fx := kp3.get fx (nm_c (by first | assumption | exact Ne.symm (by assumption) | exact x_ne fx fU (by simp)) nm_n)
  have fT := kp3.get fT (nm_c (by first | assumption | exact Ne.symm (by assumption) | exact x_ne fT fU (by simp)) nm_n)
  have fkr := kp3.get fkr (nm_c (by first | assumption | exact Ne.symm (by assumption) | exact x_ne fkr fU (by simp)) nm_n)
  have fnr := kp3.get fnr (nm_c (by first | assumption | exact Ne.symm (by assumption) | exact x_ne fnr fU (by simp)) nm_n)
  have fB := kp3.get fB (nm_c (by first | assumption | exact Ne.symm (by assumption) | exact x_ne fB fU (by simp)) nm_n)
  have fce := kp3.get fce (nm_c (by first | assumption | exact Ne.symm (by assumption) | exact x_ne fce fU (by simp)) nm_n)
  have fco := kp3.get fco (nm_c (by first | assumption | exact Ne.symm (by assumption) | exact x_ne fco fU (by simp)) nm_n)
  have fsr := kp3.get fsr (nm_c (by first | assumption | exact Ne.symm (by assumption) | exact x_ne fsr fU (by simp)) nm_n)
  have frd := kp3.get frd (nm_c (by first | assumption | exact Ne.symm (by assumption) | exact x_ne frd fU (by simp)) nm_n)
  have kp := kp.call kp3 (kc_c (Or.inl (by simp)) kc_n)
  have fU := fU'
  refine x_vret C d_CB_clear_22 ?_
  exact ⟨rfl, c', s', ⟨fT, fkr, fnr, hkn, Nat.zero_le _⟩, ⟨fB, fce, fco, fsr⟩, hc', hs', hs0, fU, kp⟩
set_option maxRecDepth 20000 in
set_option maxHeartbeats 1000000 in
theorem m_CB_init {V : xV} {h : xH} {x : Nat} (fx : h x = some (.inr (7, [.null, .null, .null]))) : xM V y_CB_init b_CB_init 1 none 2 [.ref x] h 9 2571 (fun v h' => v = none ∧ ∃ T kr nr B ce co sr U rd, h' x = some (oCB T B U) ∧ pTo V h' T kr nr (fun _ => 0) (fun _ => 0) 0 ∧ pTa V h' B ce co sr (fun _ => 0) (fun _ => 0) (fun _ => 0) ∧ h' U = some (oRu .null 0 0 0 0 0 0 rd) ∧ h' rd = some (xI V 16 (fun _ => 0)) ∧ xKeep [x] h h') := by
  refine xM_of true (by decide) (fun _ => rfl) (Nat.le_of_ble_eq_true rfl) (fun K C => ?_)
  show K 9 2571 h 0 [(0, .ref x)] []
  have kp : xKeep [x] h h := xKeep.rf
  refine x_aload_n C d_CB_init_0 rfl rfl ?_
  refine x_objInit C ⟨l_CB_1, oi_i, oi_c⟩ (by decide) (Nat.le_of_ble_eq_true rfl) d_CB_init_1 ?_
  refine x_aload_n C d_CB_init_4 rfl rfl ?_
  refine x_new (fs := [.null, .null, .int 0]) C k_To ⟨c_CB_7, n_To.1, n_To.2⟩ d_CB_init_5 (by decide +revert) (fun T h1 n1 u1 => ?_)
  have x1_x := x_nn fx n1
  have fx := xUp_new u1 n1 fx
  have z_T := kp.isn n1 (by simp only [List.mem_cons, List.not_mem_nil, or_false, not_or]; exact Ne.symm x1_x)
  have kp := kp.upN u1 z_T
  have f_T := xUp_at u1
  refine x_dup C d_CB_init_8 rfl ?_
  refine x_callI C l_CB_9 v_To_init d_CB_init_9 (m_To_init f_T) rfl (by rfl) (by rfl) (by decide) (by decide) (Nat.le_of_ble_eq_true rfl) ?_
  rintro v2 h2 ⟨rfl, kr, nr, pK, y_kr, y_nr, kp2⟩
  have z_kr := kp.isn y_kr (nm_c (Ne.symm (x_nn fx y_kr)) nm_n)
  have z_nr := kp.isn y_nr (nm_c (Ne.symm (x_nn fx y_nr)) nm_n)
  have fx := kp2.get fx (nm_c (by first | assumption | exact Ne.symm (by assumption) | exact x_ne fx f_T (by simp)) nm_n)
  have kp := kp.call kp2 (kc_c (Or.inr z_T) kc_n)
  have f_T := pK.1
  have f_kr := pK.2.1
  have f_nr := pK.2.2.1
  have hkn := pK.2.2.2.1
  refine x_putF (fs' := [_, _, _]) C k_CB g_CB_10 d_CB_init_12 fx (by rfl) (by rfl) (by rfl) (Nat.le_of_ble_eq_true rfl) (by rfl) (fun h3 u3 => ?_)
  have f_T := xUp_ne u3 f_T (by first | assumption | exact Ne.symm (by assumption) | exact x_ne f_T fx (by simp))
  have f_kr := xUp_ne u3 f_kr (by first | assumption | exact Ne.symm (by assumption) | exact x_ne f_kr fx (by simp))
  have f_nr := xUp_ne u3 f_nr (by first | assumption | exact Ne.symm (by assumption) | exact x_ne f_nr fx (by simp))
  have fx := xUp_at u3
  have kp := kp.up u3 (by simp)
  refine x_aload_n C d_CB_init_15 rfl rfl ?_
  refine x_new (fs := [.null, .null, .null]) C k_Ta ⟨c_CB_16, n_Ta.1, n_Ta.2⟩ d_CB_init_16 (by decide +revert) (fun B h4 n4 u4 => ?_)
  have x4_x := x_nn fx n4
  have x4_T := x_nn f_T n4
  have x4_kr := x_nn f_kr n4
  have x4_nr := x_nn f_nr n4
  have fx := xUp_new u4 n4 fx
  have f_T := xUp_new u4 n4 f_T
  have f_kr := xUp_new u4 n4 f_kr
  have f_nr := xUp_new u4 n4 f_nr
  have z_B := kp.isn n4 (by simp only [List.mem_cons, List.not_mem_nil, or_false, not_or]; exact Ne.symm x4_x)
  have kp := kp.upN u4 z_B
  have f_B := xUp_at u4
  refine x_dup C d_CB_init_19 rfl ?_
  refine x_callI C l_CB_18 v_Ta_init d_CB_init_20 (m_Ta_init f_B) rfl (by rfl) (by rfl) (by decide) (by decide) (Nat.le_of_ble_eq_true rfl) ?_
  rintro v5 h5 ⟨rfl, ce, co, sr, pT, y_ce, y_co, y_sr, kp5⟩
  have z_ce := kp.isn y_ce (nm_c (Ne.symm (x_nn fx y_ce)) nm_n)
  have z_co := kp.isn y_co (nm_c (Ne.symm (x_nn fx y_co)) nm_n)
  have z_sr := kp.isn y_sr (nm_c (Ne.symm (x_nn fx y_sr)) nm_n)
  have fx := kp5.get fx (nm_c (by first | assumption | exact Ne.symm (by assumption) | exact x_ne fx f_B (by simp)) nm_n)
  have f_T := kp5.get f_T (nm_c (by first | assumption | exact Ne.symm (by assumption) | exact x_ne f_T f_B (by simp)) nm_n)
  have f_kr := kp5.get f_kr (nm_c (by first | assumption | exact Ne.symm (by assumption) | exact x_ne f_kr f_B (by simp)) nm_n)
  have f_nr := kp5.get f_nr (nm_c (by first | assumption | exact Ne.symm (by assumption) | exact x_ne f_nr f_B (by simp)) nm_n)
  have kp := kp.call kp5 (kc_c (Or.inr z_B) kc_n)
  have f_B := pT.1
  have f_ce := pT.2.1
  have f_co := pT.2.2.1
  have f_sr := pT.2.2.2
  refine x_putF (fs' := [_, _, _]) C k_CB g_CB_19 d_CB_init_23 fx (by rfl) (by rfl) (by rfl) (Nat.le_of_ble_eq_true rfl) (by rfl) (fun h6 u6 => ?_)
  have f_T := xUp_ne u6 f_T (by first | assumption | exact Ne.symm (by assumption) | exact x_ne f_T fx (by simp))
  have f_kr := xUp_ne u6 f_kr (by first | assumption | exact Ne.symm (by assumption) | exact x_ne f_kr fx (by simp))
  have f_nr := xUp_ne u6 f_nr (by first | assumption | exact Ne.symm (by assumption) | exact x_ne f_nr fx (by simp))
  have f_B := xUp_ne u6 f_B (by first | assumption | exact Ne.symm (by assumption) | exact x_ne f_B fx (by simp))
  have f_ce := xUp_ne u6 f_ce (by first | assumption | exact Ne.symm (by assumption) | exact x_ne f_ce fx (by simp))
  have f_co := xUp_ne u6 f_co (by first | assumption | exact Ne.symm (by assumption) | exact x_ne f_co fx (by simp))
  have f_sr := xUp_ne u6 f_sr (by first | assumption | exact Ne.symm (by assumption) | exact x_ne f_sr fx (by simp))
  have fx := xUp_at u6
  have kp := kp.up u6 (by simp)
  refine x_aload_n C d_CB_init_26 rfl rfl ?_
  refine x_new (fs := [.null, .int 0, .int 0, .int 0, .int 0, .int 0, .long 0, .null]) C k_Ru ⟨c_CB_23, n_Ru.1, n_Ru.2⟩ d_CB_init_27 (by decide +revert) (fun U h7 n7 u7 => ?_)
  have x7_x := x_nn fx n7
  have x7_T := x_nn f_T n7
  have x7_kr := x_nn f_kr n7
  have x7_nr := x_nn f_nr n7
  have x7_B := x_nn f_B n7
  have x7_ce := x_nn f_ce n7
  have x7_co := x_nn f_co n7
  have x7_sr := x_nn f_sr n7
  have fx := xUp_new u7 n7 fx
  have f_T := xUp_new u7 n7 f_T
  have f_kr := xUp_new u7 n7 f_kr
  have f_nr := xUp_new u7 n7 f_nr
  have f_B := xUp_new u7 n7 f_B
  have f_ce := xUp_new u7 n7 f_ce
  have f_co := xUp_new u7 n7 f_co
  have f_sr := xUp_new u7 n7 f_sr
  have z_U := kp.isn n7 (by simp only [List.mem_cons, List.not_mem_nil, or_false, not_or]; exact Ne.symm x7_x)
  have kp := kp.upN u7 z_U
  have f_U := xUp_at u7
  refine x_dup C d_CB_init_30 rfl ?_
  refine x_callI C l_CB_25 v_Ru_init d_CB_init_31 (m_Ru_init f_U) rfl (by rfl) (by rfl) (by decide) (by decide) (Nat.le_of_ble_eq_true rfl) ?_
  rintro v8 h8 ⟨rfl, rd, fU', f_rd, y_rd, kp8⟩
  have z_rd := kp.isn y_rd (nm_c (Ne.symm (x_nn fx y_rd)) nm_n)
  have fx := kp8.get fx (nm_c (by first | assumption | exact Ne.symm (by assumption) | exact x_ne fx f_U (by simp)) nm_n)
  have f_T := kp8.get f_T (nm_c (by first | assumption | exact Ne.symm (by assumption) | exact x_ne f_T f_U (by simp)) nm_n)
  have f_kr := kp8.get f_kr (nm_c (by first | assumption | exact Ne.symm (by assumption) | exact x_ne f_kr f_U (by simp)) nm_n)
  have f_nr := kp8.get f_nr (nm_c (by first | assumption | exact Ne.symm (by assumption) | exact x_ne f_nr f_U (by simp)) nm_n)
  have f_B := kp8.get f_B (nm_c (by first | assumption | exact Ne.symm (by assumption) | exact x_ne f_B f_U (by simp)) nm_n)
  have f_ce := kp8.get f_ce (nm_c (by first | assumption | exact Ne.symm (by assumption) | exact x_ne f_ce f_U (by simp)) nm_n)
  have f_co := kp8.get f_co (nm_c (by first | assumption | exact Ne.symm (by assumption) | exact x_ne f_co f_U (by simp)) nm_n)
  have f_sr := kp8.get f_sr (nm_c (by first | assumption | exact Ne.symm (by assumption) | exact x_ne f_sr f_U (by simp)) nm_n)
  have kp := kp.call kp8 (kc_c (Or.inr z_U) kc_n)
  have f_U := fU'
  refine x_putF (fs' := [_, _, _]) C k_CB g_CB_26 d_CB_init_34 fx (by rfl) (by rfl) (by rfl) (Nat.le_of_ble_eq_true rfl) (by rfl) (fun h9 u9 => ?_)
  have f_T := xUp_ne u9 f_T (by first | assumption | exact Ne.symm (by assumption) | exact x_ne f_T fx (by simp))
  have f_kr := xUp_ne u9 f_kr (by first | assumption | exact Ne.symm (by assumption) | exact x_ne f_kr fx (by simp))
  have f_nr := xUp_ne u9 f_nr (by first | assumption | exact Ne.symm (by assumption) | exact x_ne f_nr fx (by simp))
  have f_B := xUp_ne u9 f_B (by first | assumption | exact Ne.symm (by assumption) | exact x_ne f_B fx (by simp))
  have f_ce := xUp_ne u9 f_ce (by first | assumption | exact Ne.symm (by assumption) | exact x_ne f_ce fx (by simp))
  have f_co := xUp_ne u9 f_co (by first | assumption | exact Ne.symm (by assumption) | exact x_ne f_co fx (by simp))
  have f_sr := xUp_ne u9 f_sr (by first | assumption | exact Ne.symm (by assumption) | exact x_ne f_sr fx (by simp))
  have f_U := xUp_ne u9 f_U (by first | assumption | exact Ne.symm (by assumption) | exact x_ne f_U fx (by simp))
  have f_rd := xUp_ne u9 f_rd (by first | assumption | exact Ne.symm (by assumption) | exact x_ne f_rd fx (by simp))
  have fx := xUp_at u9
  have kp := kp.up u9 (by simp)
  refine x_vret C d_CB_init_37 ?_
  exact ⟨rfl, T, kr, nr, B, ce, co, sr, U, rd, fx, ⟨f_T, f_kr, f_nr, hkn, Nat.zero_le _⟩, ⟨f_B, f_ce, f_co, f_sr⟩, f_U, f_rd, kp⟩
set_option maxRecDepth 20000 in
set_option maxHeartbeats 1000000 in
theorem m_CB_prepare {V : xV} {h : xH} {x T kr nr B ce co sr U rd n : Nat} {ks ns f c s g : Nat → Int32} {st : Value} {gv on en fp sp : Int32} {tt : Int64} (fx : h x = some (oCB T B U)) (pK : pTo V h T kr nr ks ns n) (pT : pTa V h B ce co sr f c s) (fU : h U = some (oRu st gv on en fp sp tt rd)) (frd : h rd = some (xI V 16 g)) (hC : colsN c) : xM V y_CB_prepare b_CB_prepare 3 (some .int) 6 [.ref x] h 49 136 (fun v h' => ∃ an, v = some (.int an) ∧ pTo V h' T kr nr ks ns 0 ∧ xKeep [T, U] h h' ∧ ((tParse ks ns n = none ∧ an = -1 ∧ h' U = some (oRu st gv on en fp sp tt rd)) ∨ ∃ dd g' pick cf, tParse ks ns n = some dd ∧ an = faultS dd.1.1 dd.1.2.2.1 dd.1.2.2.2.1 (nI dd.2.1) (g' 0) c (colsOK dd.2.2.1 pick dd.2.2.2.2.1 cf (colOf c dd.1.2.2.1) (colOf c dd.1.2.2.2.1)) ∧ (∀ j, j < dd.2.1 → j < 6 → g' j = ns (2 + j)) ∧ (∀ j, j < dd.2.2.1 → pick j = ns (dd.2.2.2.1 + j)) ∧ (∀ j, j < dd.2.2.2.2.1 → cf j = cdAt ks ns (dd.2.2.2.2.2 + 4 * j + 1)) ∧ dd.2.2.1 ≤ 8 ∧ dd.2.2.2.2.1 ≤ 8 ∧ ((¬ an = 0 ∧ h' U = some (oRu st gv on en fp sp tt rd)) ∨ (an = 0 ∧ ∃ S nb pk cd np' po' cp' pick', h' U = some (oRu (.ref S) 0 0 0 0 0 tt rd) ∧ h' S = some (oSt dd.1.1 dd.1.2.1 dd.1.2.2.1 dd.1.2.2.2.1 (bI dd.1.2.2.2.2) (nI dd.2.1) nb (nI np') pk (nI dd.2.2.2.2.1) cd) ∧ h' nb = some (xI V 6 g') ∧ h' pk = some (xR V 2 12 po') ∧ h' cd = some (xR V 3 8 cp') ∧ pOps h' po' np' pick' ∧ pCds h' cp' dd.2.2.2.2.1 cf ∧ (¬ dd.1.2.1 = 4 → np' = dd.2.2.1 ∧ pick' = pick) ∧ (dd.1.2.1 = 4 → ∃ nf nq, colOf c dd.1.2.2.1 = nI nf ∧ colOf c dd.1.2.2.2.1 = nI nq ∧ nf ≤ 6 ∧ nq ≤ 6 ∧ np' = nf + nq ∧ (∀ i, i < nf → pick' i = nI i) ∧ ∀ i, i < nq → pick' (nf + i) = 10 + nI i))))) := by
  refine xM_of false (by decide) (fun h => nomatch h) (Nat.le_of_ble_eq_true rfl) (fun K C => ?_)
  show K 49 136 h 0 [(0, .ref x)] []
  have kp : xKeep [T, U] h h := xKeep.rf
  obtain ⟨fT, fkr, fnr, hkn, hn60⟩ := pK
  obtain ⟨fB, fce, fco, fsr⟩ := pT
  refine x_new (fs := [.null, .null, .int 0]) C k_Pa ⟨c_CB_58, n_Pa.1, n_Pa.2⟩ d_CB_prepare_0 (by decide +revert) (fun P h1 n1 u1 => ?_)
  have x1_x := x_nn fx n1
  have x1_T := x_nn fT n1
  have x1_kr := x_nn fkr n1
  have x1_nr := x_nn fnr n1
  have x1_B := x_nn fB n1
  have x1_ce := x_nn fce n1
  have x1_co := x_nn fco n1
  have x1_sr := x_nn fsr n1
  have x1_U := x_nn fU n1
  have x1_rd := x_nn frd n1
  have fx := xUp_new u1 n1 fx
  have fT := xUp_new u1 n1 fT
  have fkr := xUp_new u1 n1 fkr
  have fnr := xUp_new u1 n1 fnr
  have fB := xUp_new u1 n1 fB
  have fce := xUp_new u1 n1 fce
  have fco := xUp_new u1 n1 fco
  have fsr := xUp_new u1 n1 fsr
  have fU := xUp_new u1 n1 fU
  have frd := xUp_new u1 n1 frd
  have z_P := kp.isn n1 (by simp only [List.mem_cons, List.not_mem_nil, or_false, not_or]; exact ⟨Ne.symm x1_T, Ne.symm x1_U⟩)
  have kp := kp.upN u1 z_P
  have f_P := xUp_at u1
  refine x_dup C d_CB_prepare_3 rfl ?_
  refine x_aload_n C d_CB_prepare_4 rfl rfl ?_
  refine x_get C k_CB f_CB_10 d_CB_prepare_5 fx (by rfl) ?_
  refine x_callI C l_CB_60 v_Pa_init d_CB_prepare_8 (m_Pa_init f_P T) rfl (by rfl) (by rfl) (by decide) (by decide) (Nat.le_of_ble_eq_true rfl) ?_
  rintro v2 h2 ⟨rfl, S, nb, pk, cd, fP', f_S, f_nb, f_pk, f_cd, y_S, y_nb, y_pk, y_cd, kp2⟩
  have z_S := kp.isn y_S (nm_c (Ne.symm (x_nn fT y_S)) (nm_c (Ne.symm (x_nn fU y_S)) nm_n))
  have z_nb := kp.isn y_nb (nm_c (Ne.symm (x_nn fT y_nb)) (nm_c (Ne.symm (x_nn fU y_nb)) nm_n))
  have z_pk := kp.isn y_pk (nm_c (Ne.symm (x_nn fT y_pk)) (nm_c (Ne.symm (x_nn fU y_pk)) nm_n))
  have z_cd := kp.isn y_cd (nm_c (Ne.symm (x_nn fT y_cd)) (nm_c (Ne.symm (x_nn fU y_cd)) nm_n))
  have fx := kp2.get fx (nm_c (by first | assumption | exact Ne.symm (by assumption) | exact x_ne fx f_P (by simp)) nm_n)
  have fT := kp2.get fT (nm_c (by first | assumption | exact Ne.symm (by assumption) | exact x_ne fT f_P (by simp)) nm_n)
  have fkr := kp2.get fkr (nm_c (by first | assumption | exact Ne.symm (by assumption) | exact x_ne fkr f_P (by simp)) nm_n)
  have fnr := kp2.get fnr (nm_c (by first | assumption | exact Ne.symm (by assumption) | exact x_ne fnr f_P (by simp)) nm_n)
  have fB := kp2.get fB (nm_c (by first | assumption | exact Ne.symm (by assumption) | exact x_ne fB f_P (by simp)) nm_n)
  have fce := kp2.get fce (nm_c (by first | assumption | exact Ne.symm (by assumption) | exact x_ne fce f_P (by simp)) nm_n)
  have fco := kp2.get fco (nm_c (by first | assumption | exact Ne.symm (by assumption) | exact x_ne fco f_P (by simp)) nm_n)
  have fsr := kp2.get fsr (nm_c (by first | assumption | exact Ne.symm (by assumption) | exact x_ne fsr f_P (by simp)) nm_n)
  have fU := kp2.get fU (nm_c (by first | assumption | exact Ne.symm (by assumption) | exact x_ne fU f_P (by simp)) nm_n)
  have frd := kp2.get frd (nm_c (by first | assumption | exact Ne.symm (by assumption) | exact x_ne frd f_P (by simp)) nm_n)
  have kp := kp.call kp2 (kc_c (Or.inr z_P) kc_n)
  have f_P := fP'
  refine x_callV C l_CB_63 v_Pa_parse d_CB_prepare_11 (m_Pa_parse f_P ⟨fT, fkr, fnr, hkn, hn60⟩ f_S f_nb f_pk f_cd) f_P rfl (by rfl) (by rfl) (by decide) (by decide) (Nat.le_of_ble_eq_true rfl) ?_
  rintro v3 h3 (⟨hP, rfl, kp3⟩ | ⟨dd, hP, rfl, kp3, g', po', co', pick, cf, fS', fnb', hg', fpk', pO, hpk, hr8, fcd', pC, hcf, hk8⟩)
  · skip
    have fx := kp3.get fx (nm_c (by first | assumption | exact Ne.symm (by assumption) | exact x_ne fx f_P (by simp)) (nm_c (by first | assumption | exact Ne.symm (by assumption) | exact x_ne fx f_S (by simp)) (nm_c (by first | assumption | exact Ne.symm (by assumption) | exact x_ne fx f_nb (by simp)) (nm_c (by first | assumption | exact Ne.symm (by assumption) | exact x_ne fx f_pk (by simp)) (nm_c (by first | assumption | exact Ne.symm (by assumption) | exact x_ne fx f_cd (by simp)) nm_n)))))
    have fT := kp3.get fT (nm_c (by first | assumption | exact Ne.symm (by assumption) | exact x_ne fT f_P (by simp)) (nm_c (by first | assumption | exact Ne.symm (by assumption) | exact x_ne fT f_S (by simp)) (nm_c (by first | assumption | exact Ne.symm (by assumption) | exact x_ne fT f_nb (by simp)) (nm_c (by first | assumption | exact Ne.symm (by assumption) | exact x_ne fT f_pk (by simp)) (nm_c (by first | assumption | exact Ne.symm (by assumption) | exact x_ne fT f_cd (by simp)) nm_n)))))
    have fkr := kp3.get fkr (nm_c (by first | assumption | exact Ne.symm (by assumption) | exact x_ne fkr f_P (by simp)) (nm_c (by first | assumption | exact Ne.symm (by assumption) | exact x_ne fkr f_S (by simp)) (nm_c (by first | assumption | exact Ne.symm (by assumption) | exact x_ne fkr f_nb (by simp)) (nm_c (by first | assumption | exact Ne.symm (by assumption) | exact x_ne fkr f_pk (by simp)) (nm_c (by first | assumption | exact Ne.symm (by assumption) | exact x_ne fkr f_cd (by simp)) nm_n)))))
    have fnr := kp3.get fnr (nm_c (by first | assumption | exact Ne.symm (by assumption) | exact x_ne fnr f_P (by simp)) (nm_c (by first | assumption | exact Ne.symm (by assumption) | exact x_ne fnr f_S (by simp)) (nm_c (by first | assumption | exact Ne.symm (by assumption) | exact x_ne fnr f_nb (by simp)) (nm_c (by first | assumption | exact Ne.symm (by assumption) | exact x_ne fnr f_pk (by simp)) (nm_c (by first | assumption | exact Ne.symm (by assumption) | exact x_ne fnr f_cd (by simp)) nm_n)))))
    have fB := kp3.get fB (nm_c (by first | assumption | exact Ne.symm (by assumption) | exact x_ne fB f_P (by simp)) (nm_c (by first | assumption | exact Ne.symm (by assumption) | exact x_ne fB f_S (by simp)) (nm_c (by first | assumption | exact Ne.symm (by assumption) | exact x_ne fB f_nb (by simp)) (nm_c (by first | assumption | exact Ne.symm (by assumption) | exact x_ne fB f_pk (by simp)) (nm_c (by first | assumption | exact Ne.symm (by assumption) | exact x_ne fB f_cd (by simp)) nm_n)))))
    have fce := kp3.get fce (nm_c (by first | assumption | exact Ne.symm (by assumption) | exact x_ne fce f_P (by simp)) (nm_c (by first | assumption | exact Ne.symm (by assumption) | exact x_ne fce f_S (by simp)) (nm_c (by first | assumption | exact Ne.symm (by assumption) | exact x_ne fce f_nb (by simp)) (nm_c (by first | assumption | exact Ne.symm (by assumption) | exact x_ne fce f_pk (by simp)) (nm_c (by first | assumption | exact Ne.symm (by assumption) | exact x_ne fce f_cd (by simp)) nm_n)))))
    have fco := kp3.get fco (nm_c (by first | assumption | exact Ne.symm (by assumption) | exact x_ne fco f_P (by simp)) (nm_c (by first | assumption | exact Ne.symm (by assumption) | exact x_ne fco f_S (by simp)) (nm_c (by first | assumption | exact Ne.symm (by assumption) | exact x_ne fco f_nb (by simp)) (nm_c (by first | assumption | exact Ne.symm (by assumption) | exact x_ne fco f_pk (by simp)) (nm_c (by first | assumption | exact Ne.symm (by assumption) | exact x_ne fco f_cd (by simp)) nm_n)))))
    have fsr := kp3.get fsr (nm_c (by first | assumption | exact Ne.symm (by assumption) | exact x_ne fsr f_P (by simp)) (nm_c (by first | assumption | exact Ne.symm (by assumption) | exact x_ne fsr f_S (by simp)) (nm_c (by first | assumption | exact Ne.symm (by assumption) | exact x_ne fsr f_nb (by simp)) (nm_c (by first | assumption | exact Ne.symm (by assumption) | exact x_ne fsr f_pk (by simp)) (nm_c (by first | assumption | exact Ne.symm (by assumption) | exact x_ne fsr f_cd (by simp)) nm_n)))))
    have fU := kp3.get fU (nm_c (by first | assumption | exact Ne.symm (by assumption) | exact x_ne fU f_P (by simp)) (nm_c (by first | assumption | exact Ne.symm (by assumption) | exact x_ne fU f_S (by simp)) (nm_c (by first | assumption | exact Ne.symm (by assumption) | exact x_ne fU f_nb (by simp)) (nm_c (by first | assumption | exact Ne.symm (by assumption) | exact x_ne fU f_pk (by simp)) (nm_c (by first | assumption | exact Ne.symm (by assumption) | exact x_ne fU f_cd (by simp)) nm_n)))))
    have frd := kp3.get frd (nm_c (by first | assumption | exact Ne.symm (by assumption) | exact x_ne frd f_P (by simp)) (nm_c (by first | assumption | exact Ne.symm (by assumption) | exact x_ne frd f_S (by simp)) (nm_c (by first | assumption | exact Ne.symm (by assumption) | exact x_ne frd f_nb (by simp)) (nm_c (by first | assumption | exact Ne.symm (by assumption) | exact x_ne frd f_pk (by simp)) (nm_c (by first | assumption | exact Ne.symm (by assumption) | exact x_ne frd f_cd (by simp)) nm_n)))))
    have kp := kp.call kp3 (kc_c (Or.inr z_P) (kc_c (Or.inr z_S) (kc_c (Or.inr z_nb) (kc_c (Or.inr z_pk) (kc_c (Or.inr z_cd) kc_n)))))
    refine x_astore_nN (lv' := [(1, _), (0, _)]) C d_CB_prepare_14 rfl (by decide) (by rfl) ?_
    refine x_aload_n C d_CB_prepare_15 rfl rfl ?_
    refine x_get C k_CB f_CB_10 d_CB_prepare_16 fx (by rfl) ?_
    refine x_callV C l_CB_67 v_To_drop d_CB_prepare_19 (m_To_drop ⟨fT, fkr, fnr, hkn, hn60⟩) fT rfl (by rfl) (by rfl) (by decide) (by decide) (Nat.le_of_ble_eq_true rfl) ?_
    rintro v4 h4 ⟨rfl, u4⟩
    have fx := xUp_ne u4 fx (by first | assumption | exact Ne.symm (by assumption) | exact x_ne fx fT (by simp))
    have fkr := xUp_ne u4 fkr (by first | assumption | exact Ne.symm (by assumption) | exact x_ne fkr fT (by simp))
    have fnr := xUp_ne u4 fnr (by first | assumption | exact Ne.symm (by assumption) | exact x_ne fnr fT (by simp))
    have fB := xUp_ne u4 fB (by first | assumption | exact Ne.symm (by assumption) | exact x_ne fB fT (by simp))
    have fce := xUp_ne u4 fce (by first | assumption | exact Ne.symm (by assumption) | exact x_ne fce fT (by simp))
    have fco := xUp_ne u4 fco (by first | assumption | exact Ne.symm (by assumption) | exact x_ne fco fT (by simp))
    have fsr := xUp_ne u4 fsr (by first | assumption | exact Ne.symm (by assumption) | exact x_ne fsr fT (by simp))
    have fU := xUp_ne u4 fU (by first | assumption | exact Ne.symm (by assumption) | exact x_ne fU fT (by simp))
    have frd := xUp_ne u4 frd (by first | assumption | exact Ne.symm (by assumption) | exact x_ne frd fT (by simp))
    have fT := xUp_at u4
    have kp := kp.up u4 (by simp)
    refine x_aload_nN C d_CB_prepare_22 rfl rfl ?_
    refine x_ifnonnullN C d_CB_prepare_23 ?_
    refine x_iconst (v := -1) C d_CB_prepare_26 (by decide) ?_
    refine x_iret C d_CB_prepare_27 ?_
    exact ⟨-1, rfl, ⟨fT, fkr, fnr, hkn, Nat.zero_le _⟩, kp, Or.inl ⟨hP, rfl, fU⟩⟩
  · skip
    have fx := kp3.get fx (nm_c (by first | assumption | exact Ne.symm (by assumption) | exact x_ne fx f_P (by simp)) (nm_c (by first | assumption | exact Ne.symm (by assumption) | exact x_ne fx f_S (by simp)) (nm_c (by first | assumption | exact Ne.symm (by assumption) | exact x_ne fx f_nb (by simp)) (nm_c (by first | assumption | exact Ne.symm (by assumption) | exact x_ne fx f_pk (by simp)) (nm_c (by first | assumption | exact Ne.symm (by assumption) | exact x_ne fx f_cd (by simp)) nm_n)))))
    have fT := kp3.get fT (nm_c (by first | assumption | exact Ne.symm (by assumption) | exact x_ne fT f_P (by simp)) (nm_c (by first | assumption | exact Ne.symm (by assumption) | exact x_ne fT f_S (by simp)) (nm_c (by first | assumption | exact Ne.symm (by assumption) | exact x_ne fT f_nb (by simp)) (nm_c (by first | assumption | exact Ne.symm (by assumption) | exact x_ne fT f_pk (by simp)) (nm_c (by first | assumption | exact Ne.symm (by assumption) | exact x_ne fT f_cd (by simp)) nm_n)))))
    have fkr := kp3.get fkr (nm_c (by first | assumption | exact Ne.symm (by assumption) | exact x_ne fkr f_P (by simp)) (nm_c (by first | assumption | exact Ne.symm (by assumption) | exact x_ne fkr f_S (by simp)) (nm_c (by first | assumption | exact Ne.symm (by assumption) | exact x_ne fkr f_nb (by simp)) (nm_c (by first | assumption | exact Ne.symm (by assumption) | exact x_ne fkr f_pk (by simp)) (nm_c (by first | assumption | exact Ne.symm (by assumption) | exact x_ne fkr f_cd (by simp)) nm_n)))))
    have fnr := kp3.get fnr (nm_c (by first | assumption | exact Ne.symm (by assumption) | exact x_ne fnr f_P (by simp)) (nm_c (by first | assumption | exact Ne.symm (by assumption) | exact x_ne fnr f_S (by simp)) (nm_c (by first | assumption | exact Ne.symm (by assumption) | exact x_ne fnr f_nb (by simp)) (nm_c (by first | assumption | exact Ne.symm (by assumption) | exact x_ne fnr f_pk (by simp)) (nm_c (by first | assumption | exact Ne.symm (by assumption) | exact x_ne fnr f_cd (by simp)) nm_n)))))
    have fB := kp3.get fB (nm_c (by first | assumption | exact Ne.symm (by assumption) | exact x_ne fB f_P (by simp)) (nm_c (by first | assumption | exact Ne.symm (by assumption) | exact x_ne fB f_S (by simp)) (nm_c (by first | assumption | exact Ne.symm (by assumption) | exact x_ne fB f_nb (by simp)) (nm_c (by first | assumption | exact Ne.symm (by assumption) | exact x_ne fB f_pk (by simp)) (nm_c (by first | assumption | exact Ne.symm (by assumption) | exact x_ne fB f_cd (by simp)) nm_n)))))
    have fce := kp3.get fce (nm_c (by first | assumption | exact Ne.symm (by assumption) | exact x_ne fce f_P (by simp)) (nm_c (by first | assumption | exact Ne.symm (by assumption) | exact x_ne fce f_S (by simp)) (nm_c (by first | assumption | exact Ne.symm (by assumption) | exact x_ne fce f_nb (by simp)) (nm_c (by first | assumption | exact Ne.symm (by assumption) | exact x_ne fce f_pk (by simp)) (nm_c (by first | assumption | exact Ne.symm (by assumption) | exact x_ne fce f_cd (by simp)) nm_n)))))
    have fco := kp3.get fco (nm_c (by first | assumption | exact Ne.symm (by assumption) | exact x_ne fco f_P (by simp)) (nm_c (by first | assumption | exact Ne.symm (by assumption) | exact x_ne fco f_S (by simp)) (nm_c (by first | assumption | exact Ne.symm (by assumption) | exact x_ne fco f_nb (by simp)) (nm_c (by first | assumption | exact Ne.symm (by assumption) | exact x_ne fco f_pk (by simp)) (nm_c (by first | assumption | exact Ne.symm (by assumption) | exact x_ne fco f_cd (by simp)) nm_n)))))
    have fsr := kp3.get fsr (nm_c (by first | assumption | exact Ne.symm (by assumption) | exact x_ne fsr f_P (by simp)) (nm_c (by first | assumption | exact Ne.symm (by assumption) | exact x_ne fsr f_S (by simp)) (nm_c (by first | assumption | exact Ne.symm (by assumption) | exact x_ne fsr f_nb (by simp)) (nm_c (by first | assumption | exact Ne.symm (by assumption) | exact x_ne fsr f_pk (by simp)) (nm_c (by first | assumption | exact Ne.symm (by assumption) | exact x_ne fsr f_cd (by simp)) nm_n)))))
    have fU := kp3.get fU (nm_c (by first | assumption | exact Ne.symm (by assumption) | exact x_ne fU f_P (by simp)) (nm_c (by first | assumption | exact Ne.symm (by assumption) | exact x_ne fU f_S (by simp)) (nm_c (by first | assumption | exact Ne.symm (by assumption) | exact x_ne fU f_nb (by simp)) (nm_c (by first | assumption | exact Ne.symm (by assumption) | exact x_ne fU f_pk (by simp)) (nm_c (by first | assumption | exact Ne.symm (by assumption) | exact x_ne fU f_cd (by simp)) nm_n)))))
    have frd := kp3.get frd (nm_c (by first | assumption | exact Ne.symm (by assumption) | exact x_ne frd f_P (by simp)) (nm_c (by first | assumption | exact Ne.symm (by assumption) | exact x_ne frd f_S (by simp)) (nm_c (by first | assumption | exact Ne.symm (by assumption) | exact x_ne frd f_nb (by simp)) (nm_c (by first | assumption | exact Ne.symm (by assumption) | exact x_ne frd f_pk (by simp)) (nm_c (by first | assumption | exact Ne.symm (by assumption) | exact x_ne frd f_cd (by simp)) nm_n)))))
    have kp := kp.call kp3 (kc_c (Or.inr z_P) (kc_c (Or.inr z_S) (kc_c (Or.inr z_nb) (kc_c (Or.inr z_pk) (kc_c (Or.inr z_cd) kc_n)))))
    have f_S := fS'
    have f_nb := fnb'
    have f_pk := fpk'
    have f_cd := fcd'
    refine x_astore_n (lv' := [(1, _), (0, _)]) C d_CB_prepare_14 rfl (by decide) (by rfl) ?_
    refine x_aload_n C d_CB_prepare_15 rfl rfl ?_
    refine x_get C k_CB f_CB_10 d_CB_prepare_16 fx (by rfl) ?_
    refine x_callV C l_CB_67 v_To_drop d_CB_prepare_19 (m_To_drop ⟨fT, fkr, fnr, hkn, hn60⟩) fT rfl (by rfl) (by rfl) (by decide) (by decide) (Nat.le_of_ble_eq_true rfl) ?_
    rintro v5 h5 ⟨rfl, u5⟩
    have pO := pO.keepU u5 fT rfl
    have pC := pC.keepU u5 fT rfl
    have fx := xUp_ne u5 fx (by first | assumption | exact Ne.symm (by assumption) | exact x_ne fx fT (by simp))
    have fkr := xUp_ne u5 fkr (by first | assumption | exact Ne.symm (by assumption) | exact x_ne fkr fT (by simp))
    have fnr := xUp_ne u5 fnr (by first | assumption | exact Ne.symm (by assumption) | exact x_ne fnr fT (by simp))
    have fB := xUp_ne u5 fB (by first | assumption | exact Ne.symm (by assumption) | exact x_ne fB fT (by simp))
    have fce := xUp_ne u5 fce (by first | assumption | exact Ne.symm (by assumption) | exact x_ne fce fT (by simp))
    have fco := xUp_ne u5 fco (by first | assumption | exact Ne.symm (by assumption) | exact x_ne fco fT (by simp))
    have fsr := xUp_ne u5 fsr (by first | assumption | exact Ne.symm (by assumption) | exact x_ne fsr fT (by simp))
    have fU := xUp_ne u5 fU (by first | assumption | exact Ne.symm (by assumption) | exact x_ne fU fT (by simp))
    have frd := xUp_ne u5 frd (by first | assumption | exact Ne.symm (by assumption) | exact x_ne frd fT (by simp))
    have f_S := xUp_ne u5 f_S (by first | assumption | exact Ne.symm (by assumption) | exact x_ne f_S fT (by simp))
    have f_nb := xUp_ne u5 f_nb (by first | assumption | exact Ne.symm (by assumption) | exact x_ne f_nb fT (by simp))
    have f_pk := xUp_ne u5 f_pk (by first | assumption | exact Ne.symm (by assumption) | exact x_ne f_pk fT (by simp))
    have f_cd := xUp_ne u5 f_cd (by first | assumption | exact Ne.symm (by assumption) | exact x_ne f_cd fT (by simp))
    have fT := xUp_at u5
    have kp := kp.up u5 (by simp)
    refine x_aload_n C d_CB_prepare_22 rfl rfl ?_
    refine x_ifnonnull (tgt := 28) C d_CB_prepare_23 rfl ?_
    refine x_aload_n C d_CB_prepare_28 rfl rfl ?_
    refine x_aload_n C d_CB_prepare_29 rfl rfl ?_
    refine x_get C k_CB f_CB_19 d_CB_prepare_30 fx (by rfl) ?_
    refine x_callV C l_CB_70 v_St_fault d_CB_prepare_33 (m_St_fault f_S f_pk f_cd (by omega) hk8 pO pC f_nb ⟨fB, fce, fco, fsr⟩) f_S rfl (by rfl) (by rfl) (by decide) (by decide) (Nat.le_of_ble_eq_true rfl) ?_
    rintro v9 h9 ⟨rfl, rfl⟩
    refine x_istore_n (lv' := [(2, _), (1, _), (0, _)]) C d_CB_prepare_36 rfl (by decide) (by rfl) ?_
    refine x_iload_n C d_CB_prepare_37 rfl rfl ?_
    refine x_if_ne (tgt := 57) C d_CB_prepare_38 rfl (fun q38 => ?_) (fun q38 => ?_)
    · skip
      refine x_iload_n C d_CB_prepare_57 rfl rfl ?_
      refine x_iret C d_CB_prepare_58 ?_
      exact ⟨_, rfl, ⟨fT, fkr, fnr, hkn, Nat.zero_le _⟩, kp, Or.inr ⟨dd, g', pick, cf, hP, rfl, hg', hpk, hcf, hr8, hk8, Or.inl ⟨q38, fU⟩⟩⟩
    · skip
      obtain ⟨nf, hf6, hnf⟩ := colOf_nat hC dd.1.2.2.1
      obtain ⟨nq, hq6, hnq⟩ := colOf_nat hC dd.1.2.2.2.1
      refine x_aload_n C d_CB_prepare_41 rfl rfl ?_
      refine x_aload_n C d_CB_prepare_42 rfl rfl ?_
      refine x_get C k_CB f_CB_19 d_CB_prepare_43 fx (by rfl) ?_
      refine x_callV C l_CB_76 v_St_spellOutAll d_CB_prepare_46 (m_St_spellOutAll f_S f_pk pO ⟨fB, fce, fco, fsr⟩ hnf hnq hf6 hq6 (tp_ls hP)) f_S rfl (by rfl) (by rfl) (by decide) (by decide) (Nat.le_of_ble_eq_true rfl) ?_
      rintro v6 h6 ⟨rfl, np', po2, pick', fS', fpk', pO2, hn4, h4, kp6⟩
      have pC := pC.keepC kp6 (no_c f_S rfl (no_c f_pk rfl no_n))
      have fx := kp6.get fx (nm_c (by first | assumption | exact Ne.symm (by assumption) | exact x_ne fx f_S (by simp)) (nm_c (by first | assumption | exact Ne.symm (by assumption) | exact x_ne fx f_pk (by simp)) nm_n))
      have fT := kp6.get fT (nm_c (by first | assumption | exact Ne.symm (by assumption) | exact x_ne fT f_S (by simp)) (nm_c (by first | assumption | exact Ne.symm (by assumption) | exact x_ne fT f_pk (by simp)) nm_n))
      have fkr := kp6.get fkr (nm_c (by first | assumption | exact Ne.symm (by assumption) | exact x_ne fkr f_S (by simp)) (nm_c (by first | assumption | exact Ne.symm (by assumption) | exact x_ne fkr f_pk (by simp)) nm_n))
      have fnr := kp6.get fnr (nm_c (by first | assumption | exact Ne.symm (by assumption) | exact x_ne fnr f_S (by simp)) (nm_c (by first | assumption | exact Ne.symm (by assumption) | exact x_ne fnr f_pk (by simp)) nm_n))
      have fB := kp6.get fB (nm_c (by first | assumption | exact Ne.symm (by assumption) | exact x_ne fB f_S (by simp)) (nm_c (by first | assumption | exact Ne.symm (by assumption) | exact x_ne fB f_pk (by simp)) nm_n))
      have fce := kp6.get fce (nm_c (by first | assumption | exact Ne.symm (by assumption) | exact x_ne fce f_S (by simp)) (nm_c (by first | assumption | exact Ne.symm (by assumption) | exact x_ne fce f_pk (by simp)) nm_n))
      have fco := kp6.get fco (nm_c (by first | assumption | exact Ne.symm (by assumption) | exact x_ne fco f_S (by simp)) (nm_c (by first | assumption | exact Ne.symm (by assumption) | exact x_ne fco f_pk (by simp)) nm_n))
      have fsr := kp6.get fsr (nm_c (by first | assumption | exact Ne.symm (by assumption) | exact x_ne fsr f_S (by simp)) (nm_c (by first | assumption | exact Ne.symm (by assumption) | exact x_ne fsr f_pk (by simp)) nm_n))
      have fU := kp6.get fU (nm_c (by first | assumption | exact Ne.symm (by assumption) | exact x_ne fU f_S (by simp)) (nm_c (by first | assumption | exact Ne.symm (by assumption) | exact x_ne fU f_pk (by simp)) nm_n))
      have frd := kp6.get frd (nm_c (by first | assumption | exact Ne.symm (by assumption) | exact x_ne frd f_S (by simp)) (nm_c (by first | assumption | exact Ne.symm (by assumption) | exact x_ne frd f_pk (by simp)) nm_n))
      have f_nb := kp6.get f_nb (nm_c (by first | assumption | exact Ne.symm (by assumption) | exact x_ne f_nb f_S (by simp)) (nm_c (by first | assumption | exact Ne.symm (by assumption) | exact x_ne f_nb f_pk (by simp)) nm_n))
      have f_cd := kp6.get f_cd (nm_c (by first | assumption | exact Ne.symm (by assumption) | exact x_ne f_cd f_S (by simp)) (nm_c (by first | assumption | exact Ne.symm (by assumption) | exact x_ne f_cd f_pk (by simp)) nm_n))
      have kp := kp.call kp6 (kc_c (Or.inr z_S) (kc_c (Or.inr z_pk) kc_n))
      have f_S := fS'
      have f_pk := fpk'
      refine x_aload_n C d_CB_prepare_49 rfl rfl ?_
      refine x_get C k_CB f_CB_26 d_CB_prepare_50 fx (by rfl) ?_
      refine x_aload_n C d_CB_prepare_53 rfl rfl ?_
      refine x_callV C l_CB_80 v_Ru_begin d_CB_prepare_54 (m_Ru_begin fU S) fU rfl (by rfl) (by rfl) (by decide) (by decide) (Nat.le_of_ble_eq_true rfl) ?_
      rintro v7 h7 ⟨rfl, fU', kp7⟩
      have pC := pC.keepC kp7 (no_c fU rfl no_n)
      have pO2 := pO2.keepC kp7 (no_c fU rfl no_n)
      have fx := kp7.get fx (nm_c (by first | assumption | exact Ne.symm (by assumption) | exact x_ne fx fU (by simp)) nm_n)
      have fT := kp7.get fT (nm_c (by first | assumption | exact Ne.symm (by assumption) | exact x_ne fT fU (by simp)) nm_n)
      have fkr := kp7.get fkr (nm_c (by first | assumption | exact Ne.symm (by assumption) | exact x_ne fkr fU (by simp)) nm_n)
      have fnr := kp7.get fnr (nm_c (by first | assumption | exact Ne.symm (by assumption) | exact x_ne fnr fU (by simp)) nm_n)
      have fB := kp7.get fB (nm_c (by first | assumption | exact Ne.symm (by assumption) | exact x_ne fB fU (by simp)) nm_n)
      have fce := kp7.get fce (nm_c (by first | assumption | exact Ne.symm (by assumption) | exact x_ne fce fU (by simp)) nm_n)
      have fco := kp7.get fco (nm_c (by first | assumption | exact Ne.symm (by assumption) | exact x_ne fco fU (by simp)) nm_n)
      have fsr := kp7.get fsr (nm_c (by first | assumption | exact Ne.symm (by assumption) | exact x_ne fsr fU (by simp)) nm_n)
      have frd := kp7.get frd (nm_c (by first | assumption | exact Ne.symm (by assumption) | exact x_ne frd fU (by simp)) nm_n)
      have f_S := kp7.get f_S (nm_c (by first | assumption | exact Ne.symm (by assumption) | exact x_ne f_S fU (by simp)) nm_n)
      have f_nb := kp7.get f_nb (nm_c (by first | assumption | exact Ne.symm (by assumption) | exact x_ne f_nb fU (by simp)) nm_n)
      have f_pk := kp7.get f_pk (nm_c (by first | assumption | exact Ne.symm (by assumption) | exact x_ne f_pk fU (by simp)) nm_n)
      have f_cd := kp7.get f_cd (nm_c (by first | assumption | exact Ne.symm (by assumption) | exact x_ne f_cd fU (by simp)) nm_n)
      have kp := kp.call kp7 (kc_c (Or.inl (by simp)) kc_n)
      have fU := fU'
      refine x_iload_n C d_CB_prepare_57 rfl rfl ?_
      refine x_iret C d_CB_prepare_58 ?_
      exact ⟨_, rfl, ⟨fT, fkr, fnr, hkn, Nat.zero_le _⟩, kp, Or.inr ⟨dd, g', pick, cf, hP, rfl, hg', hpk, hcf, hr8, hk8, Or.inr ⟨q38, S, nb, pk, cd, np', po2, _, pick', fU, f_S, f_nb, f_pk, f_cd, pO2, pC, hn4, fun z => ⟨nf, nq, hnf, hnq, hf6, hq6, (h4 z).1, (h4 z).2.1, (h4 z).2.2⟩⟩⟩⟩
