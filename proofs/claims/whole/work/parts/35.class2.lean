/-! CursorBase: what throws -/
set_option maxRecDepth 20000 in
set_option maxHeartbeats 1000000 in
theorem t_CB_feedA {V : xV} {h : xH} {x T B U kr nr n : Nat} {ks ns : Nat → Int32} (fx : h x = some (oCB T B U)) (pK : pTo V h T kr nr ks ns n) (a k : Int32) (hk : tokOK a k = false) : xMT V y_CB_feed b_CB_feed 3 (some .int) 8 [.ref x, .int a, .int k] h "java/lang/IllegalArgumentException" := by
  refine xMT_of (by decide) (Nat.le_of_ble_eq_true rfl) (by decide) (fun K C hT => ?_)
  show K 1 6 h 0 [(0, .ref x), (1, .int a), (2, .int k)] []
  obtain ⟨fT, fkr, fnr, hkn, hn60⟩ := pK
  refine x_iload_n C d_CB_feed_0 rfl rfl ?_
  refine x_iload_n C d_CB_feed_1 rfl rfl ?_
  refine x_callS0 C l_CB_30 v_To_isToken d_CB_feed_2 (p_To_isToken a k) (by rfl) (by rfl) (by decide) (by decide) (Nat.le_of_ble_eq_true rfl) ?_
  rintro v9 rfl
  refine x_if_ne (tgt := 18) C d_CB_feed_5 rfl (fun q5 => ?_) (fun q5 => ?_)
  · skip
    replace q5 := bI_t q5
    exact absurd (q5.symm.trans hk) (by decide)
  · skip
    replace q5 := bI_f q5
    exact hT 8 _ s_feed_8
set_option maxRecDepth 20000 in
set_option maxHeartbeats 1000000 in
theorem t_CB_feedS {V : xV} {h : xH} {x T B U kr nr n : Nat} {ks ns : Nat → Int32} (fx : h x = some (oCB T B U)) (pK : pTo V h T kr nr ks ns n) (a k : Int32) (hk : tokOK a k = true) (hn : n = 60) : xMT V y_CB_feed b_CB_feed 3 (some .int) 8 [.ref x, .int a, .int k] h "java/lang/IllegalStateException" := by
  refine xMT_of (by decide) (Nat.le_of_ble_eq_true rfl) (by decide) (fun K C hT => ?_)
  show K 1 6 h 0 [(0, .ref x), (1, .int a), (2, .int k)] []
  obtain ⟨fT, fkr, fnr, hkn, hn60⟩ := pK
  refine x_iload_n C d_CB_feed_0 rfl rfl ?_
  refine x_iload_n C d_CB_feed_1 rfl rfl ?_
  refine x_callS0 C l_CB_30 v_To_isToken d_CB_feed_2 (p_To_isToken a k) (by rfl) (by rfl) (by decide) (by decide) (Nat.le_of_ble_eq_true rfl) ?_
  rintro v9 rfl
  refine x_if_ne (tgt := 18) C d_CB_feed_5 rfl (fun q5 => ?_) (fun q5 => ?_)
  · skip
    replace q5 := bI_t q5
    refine x_aload_n C d_CB_feed_18 rfl rfl ?_
    refine x_get C k_CB f_CB_10 d_CB_feed_19 fx (by rfl) ?_
    refine x_callV0 C l_CB_41 v_To_isFull d_CB_feed_22 (p_To_isFull ⟨fT, fkr, fnr, hkn, hn60⟩) fT rfl (by rfl) (by rfl) (by decide) (by decide) (Nat.le_of_ble_eq_true rfl) ?_
    rintro v9 rfl
    refine x_if_eq (tgt := 38) C d_CB_feed_25 rfl (fun q25 => ?_) (fun q25 => ?_)
    · skip
      replace q25 := bI_f q25
      exact absurd q25 (by rw [hn]; decide)
    · skip
      replace q25 := bI_t q25
      exact hT 28 _ s_feed_28
  · skip
    replace q5 := bI_f q5
    exact absurd (q5.symm.trans hk) (by decide)
set_option maxRecDepth 20000 in
set_option maxHeartbeats 1000000 in
theorem m_CB_feed {V : xV} {h : xH} {x T B U kr nr n : Nat} {ks ns : Nat → Int32} (fx : h x = some (oCB T B U)) (pK : pTo V h T kr nr ks ns n) (a k : Int32) (hk : tokOK a k = true) (hn : n < 60) : xM V y_CB_feed b_CB_feed 3 (some .int) 8 [.ref x, .int a, .int k] h 0 0 (fun v h' => v = some (.int (nI (n + 1))) ∧ pTo V h' T kr nr (upd ks n a) (upd ns n k) (n + 1) ∧ xKeep [T, kr, nr] h h') := by
  refine xM_of false (by decide) (fun h => nomatch h) (Nat.le_of_ble_eq_true rfl) (fun K C => ?_)
  show K 0 0 h 0 [(0, .ref x), (1, .int a), (2, .int k)] []
  have kp : xKeep [T, kr, nr] h h := xKeep.rf
  obtain ⟨fT, fkr, fnr, hkn, hn60⟩ := pK
  refine x_iload_n C d_CB_feed_0 rfl rfl ?_
  refine x_iload_n C d_CB_feed_1 rfl rfl ?_
  refine x_callS C l_CB_30 v_To_isToken d_CB_feed_2 (m_To_isToken a k) (by rfl) (by rfl) (by decide) (by decide) (Nat.le_of_ble_eq_true rfl) ?_
  rintro v h' ⟨rfl, rfl⟩
  refine x_if_ne (tgt := 18) C d_CB_feed_5 rfl (fun q5 => ?_) (fun q5 => ?_)
  · skip
    replace q5 := bI_t q5
    refine x_aload_n C d_CB_feed_18 rfl rfl ?_
    refine x_get C k_CB f_CB_10 d_CB_feed_19 fx (by rfl) ?_
    refine x_callV C l_CB_41 v_To_isFull d_CB_feed_22 (m_To_isFull ⟨fT, fkr, fnr, hkn, hn60⟩) fT rfl (by rfl) (by rfl) (by decide) (by decide) (Nat.le_of_ble_eq_true rfl) ?_
    rintro v h' ⟨rfl, rfl⟩
    refine x_if_eq (tgt := 38) C d_CB_feed_25 rfl (fun q25 => ?_) (fun q25 => ?_)
    · skip
      replace q25 := bI_f q25
      refine x_aload_n C d_CB_feed_38 rfl rfl ?_
      refine x_get C k_CB f_CB_10 d_CB_feed_39 fx (by rfl) ?_
      refine x_iload_n C d_CB_feed_42 rfl rfl ?_
      refine x_iload_n C d_CB_feed_43 rfl rfl ?_
      refine x_callV C l_CB_50 v_To_put d_CB_feed_44 (m_To_put ⟨fT, fkr, fnr, hkn, hn60⟩ hn a k) fT rfl (by rfl) (by rfl) (by decide) (by decide) (Nat.le_of_ble_eq_true rfl) ?_
      rintro v1 h1 ⟨rfl, pK', kp1⟩
      have fx := kp1.get fx (nm_c (by first | assumption | exact Ne.symm (by assumption) | exact x_ne fx fT (by simp)) (nm_c (by first | assumption | exact Ne.symm (by assumption) | exact x_ne fx fkr (by simp)) (nm_c (by first | assumption | exact Ne.symm (by assumption) | exact x_ne fx fnr (by simp)) nm_n)))
      have kp := kp.call kp1 (kc_c (Or.inl (by simp)) (kc_c (Or.inl (by simp)) (kc_c (Or.inl (by simp)) kc_n)))
      have fT := pK'.1
      have fkr := pK'.2.1
      have fnr := pK'.2.2.1
      refine x_aload_n C d_CB_feed_47 rfl rfl ?_
      refine x_get C k_CB f_CB_10 d_CB_feed_48 fx (by rfl) ?_
      refine x_get C k_To f_CB_54 d_CB_feed_51 fT (by rfl) ?_
      refine x_iret C d_CB_feed_54 ?_
      exact ⟨rfl, ⟨fT, fkr, fnr, hkn, by omega⟩, kp⟩
    · skip
      replace q25 := bI_t q25
      exact absurd q25 (by rw [decide_eq_true (show nI n < (60 : Int32) from nI_lt (b := 60) hn (by decide))]; decide)
  · skip
    replace q5 := bI_f q5
    exact absurd (q5.symm.trans hk) (by decide)
set_option maxRecDepth 20000 in
set_option maxHeartbeats 1000000 in
theorem t_CB_stepS {V : xV} {h : xH} {x T B U rd : Nat} {gv on en fp sp : Int32} {tt : Int64} (fx : h x = some (oCB T B U)) (fU : h U = some (oRu .null gv on en fp sp tt rd)) : xMT V y_CB_step b_CB_step 1 (some .int) 8 [.ref x] h "java/lang/IllegalStateException" := by
  refine xMT_of (by decide) (Nat.le_of_ble_eq_true rfl) (by decide) (fun K C hT => ?_)
  show K 1 6 h 0 [(0, .ref x)] []
  refine x_aload_n C d_CB_step_0 rfl rfl ?_
  refine x_get C k_CB f_CB_26 d_CB_step_1 fx (by rfl) ?_
  refine x_get C k_Ru f_CB_84 d_CB_step_4 fU (by rfl) ?_
  refine x_ifnonnullN C d_CB_step_7 ?_
  exact hT 10 _ s_step_10
set_option maxRecDepth 20000 in
set_option maxHeartbeats 1000000 in
theorem t_CB_resetS {V : xV} {h : xH} {x T B U rd : Nat} {gv on en fp sp : Int32} {tt : Int64} (fx : h x = some (oCB T B U)) (fU : h U = some (oRu .null gv on en fp sp tt rd)) : xMT V y_CB_reset b_CB_reset 2 (some .int) 8 [.ref x] h "java/lang/IllegalStateException" := by
  refine xMT_of (by decide) (Nat.le_of_ble_eq_true rfl) (by decide) (fun K C hT => ?_)
  show K 1 6 h 0 [(0, .ref x)] []
  refine x_aload_n C d_CB_reset_0 rfl rfl ?_
  refine x_get C k_CB f_CB_26 d_CB_reset_1 fx (by rfl) ?_
  refine x_get C k_Ru f_CB_84 d_CB_reset_4 fU (by rfl) ?_
  refine x_ifnonnullN C d_CB_reset_7 ?_
  exact hT 10 _ s_reset_10
set_option maxRecDepth 20000 in
set_option maxHeartbeats 1000000 in
theorem t_CB_widthS {V : xV} {h : xH} {x T B U rd : Nat} {gv on en fp sp : Int32} {tt : Int64} (fx : h x = some (oCB T B U)) (fU : h U = some (oRu .null gv on en fp sp tt rd)) : xMT V y_CB_width b_CB_width 1 (some .int) 8 [.ref x] h "java/lang/IllegalStateException" := by
  refine xMT_of (by decide) (Nat.le_of_ble_eq_true rfl) (by decide) (fun K C hT => ?_)
  show K 1 6 h 0 [(0, .ref x)] []
  refine x_aload_n C d_CB_width_0 rfl rfl ?_
  refine x_get C k_CB f_CB_26 d_CB_width_1 fx (by rfl) ?_
  refine x_get C k_Ru f_CB_84 d_CB_width_4 fU (by rfl) ?_
  refine x_ifnonnullN C d_CB_width_7 ?_
  exact hT 10 _ s_width_10
theorem m_CB_step {V : xV} {h : xH} {x T B U rd S ce co sr : Nat} {f c s : Nat → Int32} {gv on en fp sp : Int32} {tt : Int64} (fx : h x = some (oCB T B U)) (fU : h U = some (oRu (.ref S) gv on en fp sp tt rd)) (fB : h B = some (oTa ce co sr)) {Qp : Option Value → xH → Prop} (hM : xM V y_Ru_advance b_Ru_advance 3 (some .int) 6 [.ref U, .ref B] h 0 0 Qp) (hi : ∀ v h', Qp v h' → ∃ an : Int32, v = some (.int an)) : xM V y_CB_step b_CB_step 1 (some .int) 8 [.ref x] h 0 0 Qp := by
  refine xM_of false (by decide) (fun h => nomatch h) (Nat.le_of_ble_eq_true rfl) (fun K C => ?_)
  show K 0 0 h 0 [(0, .ref x)] []
  refine x_aload_n C d_CB_step_0 rfl rfl ?_
  refine x_get C k_CB f_CB_26 d_CB_step_1 fx (by rfl) ?_
  refine x_get C k_Ru f_CB_84 d_CB_step_4 fU (by rfl) ?_
  refine x_ifnonnull (tgt := 20) C d_CB_step_7 rfl ?_
  refine x_aload_n C d_CB_step_20 rfl rfl ?_
  refine x_get C k_CB f_CB_26 d_CB_step_21 fx (by rfl) ?_
  refine x_aload_n C d_CB_step_24 rfl rfl ?_
  refine x_get C k_CB f_CB_19 d_CB_step_25 fx (by rfl) ?_
  refine x_callV C l_CB_90 v_Ru_advance d_CB_step_28 (hM) fU rfl (by rfl) (by rfl) (by decide) (by decide) (Nat.le_of_ble_eq_true rfl) ?_
  rintro v9 h9 hQ
  obtain ⟨an, rfl⟩ := hi v9 h9 hQ
  refine x_iret C d_CB_step_31 ?_
  exact hQ
set_option maxRecDepth 20000 in
set_option maxHeartbeats 1000000 in
theorem m_CB_reset {V : xV} {h : xH} {x T B U rd S : Nat} {gv on en fp sp : Int32} {tt : Int64} (fx : h x = some (oCB T B U)) (fU : h U = some (oRu (.ref S) gv on en fp sp tt rd)) : xM V y_CB_reset b_CB_reset 2 (some .int) 8 [.ref x] h 0 0 (fun v h' => v = some (.int gv) ∧ h' U = some (oRu (.ref S) 0 0 0 0 0 tt rd) ∧ xKeep [U] h h') := by
  refine xM_of false (by decide) (fun h => nomatch h) (Nat.le_of_ble_eq_true rfl) (fun K C => ?_)
  show K 0 0 h 0 [(0, .ref x)] []
  have kp : xKeep [U] h h := xKeep.rf
  refine x_aload_n C d_CB_reset_0 rfl rfl ?_
  refine x_get C k_CB f_CB_26 d_CB_reset_1 fx (by rfl) ?_
  refine x_get C k_Ru f_CB_84 d_CB_reset_4 fU (by rfl) ?_
  refine x_ifnonnull (tgt := 20) C d_CB_reset_7 rfl ?_
  refine x_aload_n C d_CB_reset_20 rfl rfl ?_
  refine x_get C k_CB f_CB_26 d_CB_reset_21 fx (by rfl) ?_
  refine x_get C k_Ru f_CB_93 d_CB_reset_24 fU (by rfl) ?_
  refine x_istore_n (lv' := [(1, _), (0, _)]) C d_CB_reset_27 rfl (by decide) (by rfl) ?_
  refine x_aload_n C d_CB_reset_28 rfl rfl ?_
  refine x_get C k_CB f_CB_26 d_CB_reset_29 fx (by rfl) ?_
  refine x_aload_n C d_CB_reset_32 rfl rfl ?_
  refine x_get C k_CB f_CB_26 d_CB_reset_33 fx (by rfl) ?_
  refine x_get C k_Ru f_CB_84 d_CB_reset_36 fU (by rfl) ?_
  refine x_callV C l_CB_80 v_Ru_begin d_CB_reset_39 (m_Ru_begin fU S) fU rfl (by rfl) (by rfl) (by decide) (by decide) (Nat.le_of_ble_eq_true rfl) ?_
  rintro v1 h1 ⟨rfl, fU', kp1⟩
  have fx := kp1.get fx (nm_c (by first | assumption | exact Ne.symm (by assumption) | exact x_ne fx fU (by simp)) nm_n)
  have kp := kp.call kp1 (kc_c (Or.inl (by simp)) kc_n)
  have fU := fU'
  refine x_iload_n C d_CB_reset_42 rfl rfl ?_
  refine x_iret C d_CB_reset_43 ?_
  exact ⟨rfl, fU, kp⟩
set_option maxRecDepth 20000 in
set_option maxHeartbeats 1000000 in
theorem m_CB_width {V : xV} {h : xH} {x T B U rd S : Nat} {gv on en fp sp : Int32} {tt : Int64} (fx : h x = some (oCB T B U)) (fU : h U = some (oRu (.ref S) gv on en fp sp tt rd)) {nb pk cd : Nat} {vb ls fi se fa nc np kc : Int32} (fS : h S = some (oSt vb ls fi se fa nc nb np pk kc cd)) : xM V y_CB_width b_CB_width 1 (some .int) 8 [.ref x] h 0 0 (fun v h' => h' = h ∧ v = some (.int (if ls = 5 ∨ ls = 6 then 1 else np))) := by
  refine xM_of false (by decide) (fun h => nomatch h) (Nat.le_of_ble_eq_true rfl) (fun K C => ?_)
  show K 0 0 h 0 [(0, .ref x)] []
  refine x_aload_n C d_CB_width_0 rfl rfl ?_
  refine x_get C k_CB f_CB_26 d_CB_width_1 fx (by rfl) ?_
  refine x_get C k_Ru f_CB_84 d_CB_width_4 fU (by rfl) ?_
  refine x_ifnonnull (tgt := 20) C d_CB_width_7 rfl ?_
  refine x_aload_n C d_CB_width_20 rfl rfl ?_
  refine x_get C k_CB f_CB_26 d_CB_width_21 fx (by rfl) ?_
  refine x_get C k_Ru f_CB_84 d_CB_width_24 fU (by rfl) ?_
  refine x_callV C l_CB_96 v_St_columnCount d_CB_width_27 (m_St_columnCount fS) fS rfl (by rfl) (by rfl) (by decide) (by decide) (Nat.le_of_ble_eq_true rfl) ?_
  rintro v h' ⟨rfl, rfl⟩
  refine x_iret C d_CB_width_30 ?_
  exact ⟨rfl, rfl⟩
set_option maxRecDepth 20000 in
set_option maxHeartbeats 1000000 in
theorem t_CB_columnS1 {V : xV} {h : xH} {x T B U rd : Nat} {gv on en fp sp : Int32} {tt : Int64} (fx : h x = some (oCB T B U)) (fU : h U = some (oRu .null gv on en fp sp tt rd)) (i : Int32) : xMT V y_CB_column b_CB_column 2 (some .long) 8 [.ref x, .int i] h "java/lang/IllegalStateException" := by
  refine xMT_of (by decide) (Nat.le_of_ble_eq_true rfl) (by decide) (fun K C hT => ?_)
  show K 1 6 h 0 [(0, .ref x), (1, .int i)] []
  refine x_aload_n C d_CB_column_0 rfl rfl ?_
  refine x_get C k_CB f_CB_26 d_CB_column_1 fx (by rfl) ?_
  refine x_get C k_Ru f_CB_84 d_CB_column_4 fU (by rfl) ?_
  refine x_ifnullN (tgt := 20) C d_CB_column_7 rfl ?_
  exact hT 20 _ s_column_20
set_option maxRecDepth 20000 in
set_option maxHeartbeats 1000000 in
theorem t_CB_columnS2 {V : xV} {h : xH} {x T B U rd S : Nat} {gv on en fp sp : Int32} {tt : Int64} (fx : h x = some (oCB T B U)) (fU : h U = some (oRu (.ref S) gv 0 en fp sp tt rd)) (i : Int32) : xMT V y_CB_column b_CB_column 2 (some .long) 8 [.ref x, .int i] h "java/lang/IllegalStateException" := by
  refine xMT_of (by decide) (Nat.le_of_ble_eq_true rfl) (by decide) (fun K C hT => ?_)
  show K 1 6 h 0 [(0, .ref x), (1, .int i)] []
  refine x_aload_n C d_CB_column_0 rfl rfl ?_
  refine x_get C k_CB f_CB_26 d_CB_column_1 fx (by rfl) ?_
  refine x_get C k_Ru f_CB_84 d_CB_column_4 fU (by rfl) ?_
  refine x_ifnull C d_CB_column_7 ?_
  refine x_aload_n C d_CB_column_10 rfl rfl ?_
  refine x_get C k_CB f_CB_26 d_CB_column_11 fx (by rfl) ?_
  refine x_get C k_Ru f_CB_100 d_CB_column_14 fU (by rfl) ?_
  refine x_if_ne (tgt := 30) C d_CB_column_17 rfl (fun q17 => ?_) (fun q17 => ?_)
  · skip
    exact absurd rfl q17
  · skip
    exact hT 20 _ s_column_20
set_option maxRecDepth 20000 in
set_option maxHeartbeats 1000000 in
theorem t_CB_columnX {V : xV} {h : xH} {x T B U rd S : Nat} {gv on en fp sp : Int32} {tt : Int64} (fx : h x = some (oCB T B U)) (fU : h U = some (oRu (.ref S) gv 1 en fp sp tt rd)) {nb pk cd : Nat} {vb ls fi se fa nc np kc : Int32} (fS : h S = some (oSt vb ls fi se fa nc nb np pk kc cd)) (i : Int32) (hi : i < 0 ∨ (if ls = 5 ∨ ls = 6 then 1 else np) ≤ i) : xMT V y_CB_column b_CB_column 2 (some .long) 8 [.ref x, .int i] h "java/lang/IndexOutOfBoundsException" := by
  refine xMT_of (by decide) (Nat.le_of_ble_eq_true rfl) (by decide) (fun K C hT => ?_)
  show K 1 6 h 0 [(0, .ref x), (1, .int i)] []
  refine x_aload_n C d_CB_column_0 rfl rfl ?_
  refine x_get C k_CB f_CB_26 d_CB_column_1 fx (by rfl) ?_
  refine x_get C k_Ru f_CB_84 d_CB_column_4 fU (by rfl) ?_
  refine x_ifnull C d_CB_column_7 ?_
  refine x_aload_n C d_CB_column_10 rfl rfl ?_
  refine x_get C k_CB f_CB_26 d_CB_column_11 fx (by rfl) ?_
  refine x_get C k_Ru f_CB_100 d_CB_column_14 fU (by rfl) ?_
  refine x_if_ne (tgt := 30) C d_CB_column_17 rfl (fun q17 => ?_) (fun q17 => ?_)
  · skip
    refine x_iload_n C d_CB_column_30 rfl rfl ?_
    refine x_if_lt (tgt := 48) C d_CB_column_31 rfl (fun q31 => ?_) (fun q31 => ?_)
    · skip
      exact hT 48 _ s_column_48
    · skip
      refine x_iload_n C d_CB_column_34 rfl rfl ?_
      refine x_aload_n C d_CB_column_35 rfl rfl ?_
      refine x_get C k_CB f_CB_26 d_CB_column_36 fx (by rfl) ?_
      refine x_get C k_Ru f_CB_84 d_CB_column_39 fU (by rfl) ?_
      refine x_callV0 C l_CB_96 v_St_columnCount d_CB_column_42 (p_St_columnCount fS) fS rfl (by rfl) (by rfl) (by decide) (by decide) (Nat.le_of_ble_eq_true rfl) ?_
      rintro v9 rfl
      refine x_icmp_lt (tgt := 58) C d_CB_column_45 rfl (fun q45 => ?_) (fun q45 => ?_)
      · skip
        exact absurd q45 (Int32.not_lt.mpr (hi.resolve_left q31))
      · skip
        exact hT 48 _ s_column_48
  · skip
    exact absurd q17 (by decide)
set_option maxRecDepth 20000 in
set_option maxHeartbeats 1000000 in
theorem m_CB_column {V : xV} {h : xH} {x T B U rd S np : Nat} {gv on en fp sp : Int32} {tt : Int64} (fx : h x = some (oCB T B U)) (fU : h U = some (oRu (.ref S) gv 1 en fp sp tt rd)) {nb pk cd : Nat} {vb ls fi se fa nc kc : Int32} (fS : h S = some (oSt vb ls fi se fa nc nb (nI np) pk kc cd)) {g : Nat → Int32} {po : Nat → Option Nat} {pick : Nat → Int32} {k : Nat} (fpk : h pk = some (xR V 2 12 po)) (frd : h rd = some (xI V 16 g)) (pO : pOps h po np pick) (hnp : np ≤ 12) (hk : (ls = 5 ∨ ls = 6) ∨ (k < np ∧ vp_in (pick k) 16)) (hk2 : k < 2 ^ 31) (hin : ¬ (if ls = 5 ∨ ls = 6 then 1 else nI np) ≤ nI k) : xM V y_CB_column b_CB_column 2 (some .long) 8 [.ref x, .int (nI k)] h 0 0 (fun v h' => h' = h ∧ v = some (.long (if ls = 5 ∨ ls = 6 then tt else (opVal 2 (pick k) g).toInt64))) := by
  refine xM_of false (by decide) (fun h => nomatch h) (Nat.le_of_ble_eq_true rfl) (fun K C => ?_)
  show K 0 0 h 0 [(0, .ref x), (1, .int (nI k))] []
  refine x_aload_n C d_CB_column_0 rfl rfl ?_
  refine x_get C k_CB f_CB_26 d_CB_column_1 fx (by rfl) ?_
  refine x_get C k_Ru f_CB_84 d_CB_column_4 fU (by rfl) ?_
  refine x_ifnull C d_CB_column_7 ?_
  refine x_aload_n C d_CB_column_10 rfl rfl ?_
  refine x_get C k_CB f_CB_26 d_CB_column_11 fx (by rfl) ?_
  refine x_get C k_Ru f_CB_100 d_CB_column_14 fU (by rfl) ?_
  refine x_if_ne (tgt := 30) C d_CB_column_17 rfl (fun q17 => ?_) (fun q17 => ?_)
  · skip
    refine x_iload_n C d_CB_column_30 rfl rfl ?_
    refine x_if_lt (tgt := 48) C d_CB_column_31 rfl (fun q31 => ?_) (fun q31 => ?_)
    · skip
      exact absurd q31 (nI_pos hk2)
    · skip
      refine x_iload_n C d_CB_column_34 rfl rfl ?_
      refine x_aload_n C d_CB_column_35 rfl rfl ?_
      refine x_get C k_CB f_CB_26 d_CB_column_36 fx (by rfl) ?_
      refine x_get C k_Ru f_CB_84 d_CB_column_39 fU (by rfl) ?_
      refine x_callV C l_CB_96 v_St_columnCount d_CB_column_42 (m_St_columnCount fS) fS rfl (by rfl) (by rfl) (by decide) (by decide) (Nat.le_of_ble_eq_true rfl) ?_
      rintro v h' ⟨rfl, rfl⟩
      refine x_icmp_lt (tgt := 58) C d_CB_column_45 rfl (fun q45 => ?_) (fun q45 => ?_)
      · skip
        refine x_aload_n C d_CB_column_58 rfl rfl ?_
        refine x_get C k_CB f_CB_26 d_CB_column_59 fx (by rfl) ?_
        refine x_iload_n C d_CB_column_62 rfl rfl ?_
        refine x_callV C l_CB_111 v_Ru_valueAt d_CB_column_63 (m_Ru_valueAt fU fS fpk frd pO hnp hk hk2) fU rfl (by rfl) (by rfl) (by decide) (by decide) (Nat.le_of_ble_eq_true rfl) ?_
        rintro v h' ⟨rfl, rfl⟩
        refine x_lret C d_CB_column_66 ?_
        exact ⟨rfl, rfl⟩
      · skip
        exact absurd (Int32.not_le.mp hin) q45
  · skip
    exact absurd q17 (by decide)
set_option maxRecDepth 20000 in
set_option maxHeartbeats 1000000 in
theorem t_CB_rowsA {V : xV} {h : xH} {x T B U ce co sr : Nat} {f c s : Nat → Int32} (fx : h x = some (oCB T B U)) (pT : pTa V h B ce co sr f c s) (t : Int32) (ht : t < 0 ∨ 10 ≤ t) : xMT V y_CB_rows b_CB_rows 2 (some .int) 8 [.ref x, .int t] h "java/lang/IllegalArgumentException" := by
  refine xMT_of (by decide) (Nat.le_of_ble_eq_true rfl) (by decide) (fun K C hT => ?_)
  show K 1 6 h 0 [(0, .ref x), (1, .int t)] []
  obtain ⟨fB, fce, fco, fsr⟩ := pT
  refine x_iload_n C d_CB_rows_0 rfl rfl ?_
  refine x_if_lt (tgt := 10) C d_CB_rows_1 rfl (fun q1 => ?_) (fun q1 => ?_)
  · skip
    exact hT 10 _ s_rows_10
  · skip
    refine x_iload_n C d_CB_rows_4 rfl rfl ?_
    refine x_bipush (v := 10) C d_CB_rows_5 (by decide) ?_
    refine x_icmp_lt (tgt := 20) C d_CB_rows_7 rfl (fun q7 => ?_) (fun q7 => ?_)
    · skip
      exact absurd q7 (Int32.not_lt.mpr (ht.resolve_left q1))
    · skip
      exact hT 10 _ s_rows_10
set_option maxRecDepth 20000 in
set_option maxHeartbeats 1000000 in
theorem m_CB_rows {V : xV} {h : xH} {x T B U ce co sr : Nat} {f c s : Nat → Int32} (fx : h x = some (oCB T B U)) (pT : pTa V h B ce co sr f c s) (t : Int32) (h0 : ¬ t < 0) (h10 : t < 10) : xM V y_CB_rows b_CB_rows 2 (some .int) 8 [.ref x, .int t] h 0 0 (fun v h' => h' = h ∧ v = some (.int (if colOf c t ≤ 0 then -1 else rowOf s t))) := by
  refine xM_of false (by decide) (fun h => nomatch h) (Nat.le_of_ble_eq_true rfl) (fun K C => ?_)
  show K 0 0 h 0 [(0, .ref x), (1, .int t)] []
  obtain ⟨fB, fce, fco, fsr⟩ := pT
  refine x_iload_n C d_CB_rows_0 rfl rfl ?_
  refine x_if_lt (tgt := 10) C d_CB_rows_1 rfl (fun q1 => ?_) (fun q1 => ?_)
  · skip
    exact absurd q1 h0
  · skip
    refine x_iload_n C d_CB_rows_4 rfl rfl ?_
    refine x_bipush (v := 10) C d_CB_rows_5 (by decide) ?_
    refine x_icmp_lt (tgt := 20) C d_CB_rows_7 rfl (fun q7 => ?_) (fun q7 => ?_)
    · skip
      refine x_aload_n C d_CB_rows_20 rfl rfl ?_
      refine x_get C k_CB f_CB_19 d_CB_rows_21 fx (by rfl) ?_
      refine x_iload_n C d_CB_rows_24 rfl rfl ?_
      refine x_callV C l_CB_117 v_Ta_isThere d_CB_rows_25 (m_Ta_isThere ⟨fB, fce, fco, fsr⟩ t) fB rfl (by rfl) (by rfl) (by decide) (by decide) (Nat.le_of_ble_eq_true rfl) ?_
      rintro v h' ⟨rfl, rfl⟩
      refine x_if_eq (tgt := 42) C d_CB_rows_28 rfl (fun q28 => ?_) (fun q28 => ?_)
      · skip
        replace q28 := bI_f q28
        refine x_iconst (v := -1) C d_CB_rows_42 (by decide) ?_
        refine x_iret C d_CB_rows_43 ?_
        refine ⟨rfl, ?_⟩
        first | (rw [if_pos (by simpa using q28)]; done) | (rw [if_neg (by simpa using q28)]; done)
      · skip
        replace q28 := bI_t q28
        refine x_aload_n C d_CB_rows_31 rfl rfl ?_
        refine x_get C k_CB f_CB_19 d_CB_rows_32 fx (by rfl) ?_
        refine x_iload_n C d_CB_rows_35 rfl rfl ?_
        refine x_callV C l_CB_121 v_Ta_rowsOf d_CB_rows_36 (m_Ta_rowsOf ⟨fB, fce, fco, fsr⟩ t) fB rfl (by rfl) (by rfl) (by decide) (by decide) (Nat.le_of_ble_eq_true rfl) ?_
        rintro v h' ⟨rfl, rfl⟩
        refine x_goto (tgt := 43) C d_CB_rows_39 rfl ?_
        refine x_iret C d_CB_rows_43 ?_
        refine ⟨rfl, ?_⟩
        first | (rw [if_pos (by simpa using q28)]; done) | (rw [if_neg (by simpa using q28)]; done)
    · skip
      exact absurd h10 q7
set_option maxRecDepth 20000 in
set_option maxHeartbeats 1000000 in
theorem t_CB_nearestA {V : xV} {h : xH} {x T B U ce co sr : Nat} {f c s : Nat → Int32} (fx : h x = some (oCB T B U)) (pT : pTa V h B ce co sr f c s) (t k u : Int32) (hno : colOf c t ≤ 0) : xMT V y_CB_nearest b_CB_nearest 5 (some .int) 8 [.ref x, .int t, .int k, .int u] h "java/lang/IllegalArgumentException" := by
  refine xMT_of (by decide) (Nat.le_of_ble_eq_true rfl) (by decide) (fun K C hT => ?_)
  show K 1 6 h 0 [(0, .ref x), (1, .int t), (2, .int k), (3, .int u)] []
  obtain ⟨fB, fce, fco, fsr⟩ := pT
  refine x_aload_n C d_CB_nearest_0 rfl rfl ?_
  refine x_get C k_CB f_CB_19 d_CB_nearest_1 fx (by rfl) ?_
  refine x_iload_n C d_CB_nearest_4 rfl rfl ?_
  refine x_callV0 C l_CB_117 v_Ta_isThere d_CB_nearest_5 (p_Ta_isThere ⟨fB, fce, fco, fsr⟩ t) fB rfl (by rfl) (by rfl) (by decide) (by decide) (Nat.le_of_ble_eq_true rfl) ?_
  rintro v9 rfl
  refine x_if_ne (tgt := 21) C d_CB_nearest_8 rfl (fun q8 => ?_) (fun q8 => ?_)
  · skip
    replace q8 := bI_t q8
    exact absurd q8 (by simp [hno])
  · skip
    replace q8 := bI_f q8
    exact hT 11 _ s_nearest_11
set_option maxRecDepth 20000 in
set_option maxHeartbeats 1000000 in
theorem t_CB_nearestS {V : xV} {h : xH} {x T B U ce co sr : Nat} {f c s : Nat → Int32} (fx : h x = some (oCB T B U)) (pT : pTa V h B ce co sr f c s) {SS : Nat → Nat} {t : Nat} (hS : pS s SS) (ht : t < 10) (k u : Int32) (hth : ¬ colOf c (nI t) ≤ 0) (hz : ∀ p, pNB (fun j => f ((SS t + j) * 6)) (SS (t + 1) - SS t) k p → nearP (fun j => f ((SS t + j) * 6)) (SS (t + 1) - SS t) k u p = -1) : xMT V y_CB_nearest b_CB_nearest 5 (some .int) 8 [.ref x, .int (nI t), .int k, .int u] h "java/lang/IllegalStateException" := by
  refine xMT_of (by decide) (Nat.le_of_ble_eq_true rfl) (by decide) (fun K C hT => ?_)
  show K 1 6 h 0 [(0, .ref x), (1, .int (nI t)), (2, .int k), (3, .int u)] []
  obtain ⟨fB, fce, fco, fsr⟩ := pT
  refine x_aload_n C d_CB_nearest_0 rfl rfl ?_
  refine x_get C k_CB f_CB_19 d_CB_nearest_1 fx (by rfl) ?_
  refine x_iload_n C d_CB_nearest_4 rfl rfl ?_
  refine x_callV0 C l_CB_117 v_Ta_isThere d_CB_nearest_5 (p_Ta_isThere ⟨fB, fce, fco, fsr⟩ (nI t)) fB rfl (by rfl) (by rfl) (by decide) (by decide) (Nat.le_of_ble_eq_true rfl) ?_
  rintro v9 rfl
  refine x_if_ne (tgt := 21) C d_CB_nearest_8 rfl (fun q8 => ?_) (fun q8 => ?_)
  · skip
    replace q8 := bI_t q8
    refine x_aload_n C d_CB_nearest_21 rfl rfl ?_
    refine x_get C k_CB f_CB_19 d_CB_nearest_22 fx (by rfl) ?_
    refine x_iload_n C d_CB_nearest_25 rfl rfl ?_
    refine x_iload_n C d_CB_nearest_26 rfl rfl ?_
    refine x_iload_n C d_CB_nearest_27 rfl rfl ?_
    refine x_callV0 C l_CB_130 v_Ta_placeNearest d_CB_nearest_28 (p_Ta_placeNearest ⟨fB, fce, fco, fsr⟩ hS ht k u) fB rfl (by rfl) (by rfl) (by decide) (by decide) (Nat.le_of_ble_eq_true rfl) ?_
    rintro v9 ⟨p, hp, rfl⟩
    refine x_istore (lv' := [(4, _), (0, _), (1, _), (2, _), (3, _)]) C d_CB_nearest_31 (by decide) (by rfl) ?_
    refine x_iload C d_CB_nearest_33 rfl ?_
    refine x_iconst (v := -1) C d_CB_nearest_35 (by decide) ?_
    refine x_icmp_ne (tgt := 49) C d_CB_nearest_36 rfl (fun q36 => ?_) (fun q36 => ?_)
    · skip
      exact absurd (hz p hp) q36
    · skip
      exact hT 39 _ s_nearest_39
  · skip
    replace q8 := bI_f q8
    exact absurd q8 (by simp [hth])
set_option maxRecDepth 20000 in
set_option maxHeartbeats 1000000 in
theorem m_CB_nearest {V : xV} {h : xH} {x T B U ce co sr : Nat} {f c s : Nat → Int32} (fx : h x = some (oCB T B U)) (pT : pTa V h B ce co sr f c s) {SS : Nat → Nat} {t : Nat} (hS : pS s SS) (ht : t < 10) (k u : Int32) (hth : ¬ colOf c (nI t) ≤ 0) {pl : Nat} (hpl : pl < SS (t + 1) - SS t) (hz : ∀ p, pNB (fun j => f ((SS t + j) * 6)) (SS (t + 1) - SS t) k p → nearP (fun j => f ((SS t + j) * 6)) (SS (t + 1) - SS t) k u p = nI pl) : xM V y_CB_nearest b_CB_nearest 5 (some .int) 8 [.ref x, .int (nI t), .int k, .int u] h 0 0 (fun v h' => h' = h ∧ v = some (.int (f ((SS t + pl) * 6)))) := by
  refine xM_of false (by decide) (fun h => nomatch h) (Nat.le_of_ble_eq_true rfl) (fun K C => ?_)
  show K 0 0 h 0 [(0, .ref x), (1, .int (nI t)), (2, .int k), (3, .int u)] []
  obtain ⟨fB, fce, fco, fsr⟩ := pT
  have hm0 := hS.le (t + 1) (by omega)
  have hmt := hS.2.1 t ht
  refine x_aload_n C d_CB_nearest_0 rfl rfl ?_
  refine x_get C k_CB f_CB_19 d_CB_nearest_1 fx (by rfl) ?_
  refine x_iload_n C d_CB_nearest_4 rfl rfl ?_
  refine x_callV C l_CB_117 v_Ta_isThere d_CB_nearest_5 (m_Ta_isThere ⟨fB, fce, fco, fsr⟩ (nI t)) fB rfl (by rfl) (by rfl) (by decide) (by decide) (Nat.le_of_ble_eq_true rfl) ?_
  rintro v h' ⟨rfl, rfl⟩
  refine x_if_ne (tgt := 21) C d_CB_nearest_8 rfl (fun q8 => ?_) (fun q8 => ?_)
  · skip
    replace q8 := bI_t q8
    refine x_aload_n C d_CB_nearest_21 rfl rfl ?_
    refine x_get C k_CB f_CB_19 d_CB_nearest_22 fx (by rfl) ?_
    refine x_iload_n C d_CB_nearest_25 rfl rfl ?_
    refine x_iload_n C d_CB_nearest_26 rfl rfl ?_
    refine x_iload_n C d_CB_nearest_27 rfl rfl ?_
    refine x_callV C l_CB_130 v_Ta_placeNearest d_CB_nearest_28 (m_Ta_placeNearest ⟨fB, fce, fco, fsr⟩ hS ht k u) fB rfl (by rfl) (by rfl) (by decide) (by decide) (Nat.le_of_ble_eq_true rfl) ?_
    rintro v h' ⟨rfl, p, hp, rfl⟩
    refine x_istore (lv' := [(4, _), (0, _), (1, _), (2, _), (3, _)]) C d_CB_nearest_31 (by decide) (by rfl) ?_
    rw [hz p hp]
    refine x_iload C d_CB_nearest_33 rfl ?_
    refine x_iconst (v := -1) C d_CB_nearest_35 (by decide) ?_
    refine x_icmp_ne (tgt := 49) C d_CB_nearest_36 rfl (fun q36 => ?_) (fun q36 => ?_)
    · skip
      refine x_aload_n C d_CB_nearest_49 rfl rfl ?_
      refine x_get C k_CB f_CB_19 d_CB_nearest_50 fx (by rfl) ?_
      refine x_iload_n C d_CB_nearest_53 rfl rfl ?_
      refine x_iload C d_CB_nearest_54 rfl ?_
      refine x_callV C l_CB_136 v_Ta_keyAt d_CB_nearest_56 (m_Ta_keyAt ⟨fB, fce, fco, fsr⟩ (t := t) (by omega) (p := nI pl) (a := (SS t + pl) * 6) (by omega) (by rw [hS.1 t (by omega)]; exact cell_eq _ _)) fB rfl (by rfl) (by rfl) (by decide) (by decide) (Nat.le_of_ble_eq_true rfl) ?_
      rintro v h' ⟨rfl, rfl⟩
      refine x_iret C d_CB_nearest_59 ?_
      exact ⟨rfl, rfl⟩
    · skip
      exact absurd q36 (nI_m1 (by omega))
  · skip
    replace q8 := bI_f q8
    exact absurd q8 (by simp [hth])
