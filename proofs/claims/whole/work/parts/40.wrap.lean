/-! the law's wrappers -/
set_option maxRecDepth 20000 in
set_option maxHeartbeats 1000000 in
theorem m_La_feed {V : xV} {h : xH} {x O : Nat} {fs : List Value} {o : Nat → Int64} {a k : Int32} (fx : h x = some (.inr (7, fs))) (fO : h O = some (xJ V 1 o)) {Qp : Option Value → xH → Prop} (hM : xM V y_CB_feed b_CB_feed 3 (some .int) 8 [.ref x, .int a, .int k] h 0 0 Qp) (hi : ∀ v h', Qp v h' → ∃ an : Int32, v = some (.int an)) (hk : ∀ v h', Qp v h' → h' O = some (xJ V 1 o)) : xMW V y_La_feed b_La_feed 5 (some .int) hs_feed 9 [.ref x, .int a, .int k, .ref O] h 0 0 (fun v h' => v = some (.int 0) ∧ ∃ an h1, Qp (some (.int an)) h1 ∧ h' = va_up h1 O (some (xJ V 1 (vp_updL o 0 (an.toInt64))))) := by
  refine xMW_of (by decide) (Nat.le_of_ble_eq_true rfl) (fun K C hcat => ?_)
  show K 0 0 h 0 [(0, .ref x), (1, .int a), (2, .int k), (3, .ref O)] []
  refine x_aload_n C d_La_feed_0 rfl rfl ?_
  refine x_iconst (v := 0) C d_La_feed_1 (by decide) ?_
  refine x_aload_n C d_La_feed_2 rfl rfl ?_
  refine x_iload_n C d_La_feed_3 rfl rfl ?_
  refine x_iload_n C d_La_feed_4 rfl rfl ?_
  refine x_callV C l_La_7 v_CB_feed d_La_feed_5 (hM) (by assumption) rfl (by rfl) (by rfl) (by decide) (by decide) (Nat.le_of_ble_eq_true rfl) ?_
  rintro v9 h9 hQ
  obtain ⟨an, rfl⟩ := hi _ _ hQ
  have fO := hk _ _ hQ
  refine x_i2l C d_La_feed_8 ?_
  refine x_last C d_La_feed_9 fO (vp_in_nI (n := 0) (by decide) (by decide)) (fun h1 u1 => ?_)
  have fO := xUp_at u1
  refine x_goto (tgt := 21) C d_La_feed_10 rfl ?_
  refine x_iconst (v := 0) C d_La_feed_21 (by decide) ?_
  refine x_iret C d_La_feed_22 ?_
  exact ⟨rfl, an, h9, hQ, by rw [u1]; rfl⟩
set_option maxRecDepth 20000 in
set_option maxHeartbeats 1000000 in
theorem m_La_feedA {V : xV} {h : xH} {x O : Nat} {fs : List Value} {a k : Int32} (fx : h x = some (.inr (7, fs))) (hM : xMT V y_CB_feed b_CB_feed 3 (some .int) 8 [.ref x, .int a, .int k] h "java/lang/IllegalArgumentException") : xMW V y_La_feed b_La_feed 5 (some .int) hs_feed 9 [.ref x, .int a, .int k, .ref O] h 1 6 (fun v h' => v = some (.int 1) ∧ h' = h) := by
  refine xMW_of (by decide) (Nat.le_of_ble_eq_true rfl) (fun K C hcat => ?_)
  show K 1 6 h 0 [(0, .ref x), (1, .int a), (2, .int k), (3, .ref O)] []
  refine x_aload_n C d_La_feed_0 rfl rfl ?_
  refine x_iconst (v := 0) C d_La_feed_1 (by decide) ?_
  refine x_aload_n C d_La_feed_2 rfl rfl ?_
  refine x_iload_n C d_La_feed_3 rfl rfl ?_
  refine x_iload_n C d_La_feed_4 rfl rfl ?_
  refine hcat _ _ _ _ _ _ _ _ _ 0 0 _ _ _ _ _ _ _ _ _ _ 13 ml_feed v_CB_feed d_La_feed_5 hM fx rfl (by rfl) (by rfl) (by decide) (by decide) (Nat.le_of_ble_eq_true rfl) ch_feedA cs_A (fun q => ?_)
  refine x_astore (lv' := [(4, _), (0, _), (1, _), (2, _), (3, _)]) C d_La_feed_13 (by decide) (by rfl) ?_
  refine x_iconst (v := 1) C d_La_feed_15 (by decide) ?_
  refine x_iret C d_La_feed_16 ?_
  exact ⟨rfl, rfl⟩
set_option maxRecDepth 20000 in
set_option maxHeartbeats 1000000 in
theorem m_La_feedS {V : xV} {h : xH} {x O : Nat} {fs : List Value} {a k : Int32} (fx : h x = some (.inr (7, fs))) (hM : xMT V y_CB_feed b_CB_feed 3 (some .int) 8 [.ref x, .int a, .int k] h "java/lang/IllegalStateException") : xMW V y_La_feed b_La_feed 5 (some .int) hs_feed 9 [.ref x, .int a, .int k, .ref O] h 1 6 (fun v h' => v = some (.int 2) ∧ h' = h) := by
  refine xMW_of (by decide) (Nat.le_of_ble_eq_true rfl) (fun K C hcat => ?_)
  show K 1 6 h 0 [(0, .ref x), (1, .int a), (2, .int k), (3, .ref O)] []
  refine x_aload_n C d_La_feed_0 rfl rfl ?_
  refine x_iconst (v := 0) C d_La_feed_1 (by decide) ?_
  refine x_aload_n C d_La_feed_2 rfl rfl ?_
  refine x_iload_n C d_La_feed_3 rfl rfl ?_
  refine x_iload_n C d_La_feed_4 rfl rfl ?_
  refine hcat _ _ _ _ _ _ _ _ _ 0 0 _ _ _ _ _ _ _ _ _ _ 17 ml_feed v_CB_feed d_La_feed_5 hM fx rfl (by rfl) (by rfl) (by decide) (by decide) (Nat.le_of_ble_eq_true rfl) ch_feedS cs_S (fun q => ?_)
  refine x_astore (lv' := [(4, _), (0, _), (1, _), (2, _), (3, _)]) C d_La_feed_17 (by decide) (by rfl) ?_
  refine x_iconst (v := 2) C d_La_feed_19 (by decide) ?_
  refine x_iret C d_La_feed_20 ?_
  exact ⟨rfl, rfl⟩
set_option maxRecDepth 20000 in
set_option maxHeartbeats 1000000 in
theorem m_La_step {V : xV} {h : xH} {x O : Nat} {fs : List Value} {o : Nat → Int64} (fx : h x = some (.inr (7, fs))) (fO : h O = some (xJ V 1 o)) {Qp : Option Value → xH → Prop} (hM : xM V y_CB_step b_CB_step 1 (some .int) 8 [.ref x] h 0 0 Qp) (hi : ∀ v h', Qp v h' → ∃ an : Int32, v = some (.int an)) (hk : ∀ v h', Qp v h' → h' O = some (xJ V 1 o)) : xMW V y_La_step b_La_step 3 (some .int) hs_step 9 [.ref x, .ref O] h 0 0 (fun v h' => v = some (.int 0) ∧ ∃ an h1, Qp (some (.int an)) h1 ∧ h' = va_up h1 O (some (xJ V 1 (vp_updL o 0 (an.toInt64))))) := by
  refine xMW_of (by decide) (Nat.le_of_ble_eq_true rfl) (fun K C hcat => ?_)
  show K 0 0 h 0 [(0, .ref x), (1, .ref O)] []
  refine x_aload_n C d_La_step_0 rfl rfl ?_
  refine x_iconst (v := 0) C d_La_step_1 (by decide) ?_
  refine x_aload_n C d_La_step_2 rfl rfl ?_
  refine x_callV C l_La_17 v_CB_step d_La_step_3 (hM) (by assumption) rfl (by rfl) (by rfl) (by decide) (by decide) (Nat.le_of_ble_eq_true rfl) ?_
  rintro v9 h9 hQ
  obtain ⟨an, rfl⟩ := hi _ _ hQ
  have fO := hk _ _ hQ
  refine x_i2l C d_La_step_6 ?_
  refine x_last C d_La_step_7 fO (vp_in_nI (n := 0) (by decide) (by decide)) (fun h1 u1 => ?_)
  have fO := xUp_at u1
  refine x_goto (tgt := 14) C d_La_step_8 rfl ?_
  refine x_iconst (v := 0) C d_La_step_14 (by decide) ?_
  refine x_iret C d_La_step_15 ?_
  exact ⟨rfl, an, h9, hQ, by rw [u1]; rfl⟩
set_option maxRecDepth 20000 in
set_option maxHeartbeats 1000000 in
theorem m_La_stepS {V : xV} {h : xH} {x O : Nat} {fs : List Value} (fx : h x = some (.inr (7, fs))) (hM : xMT V y_CB_step b_CB_step 1 (some .int) 8 [.ref x] h "java/lang/IllegalStateException") : xMW V y_La_step b_La_step 3 (some .int) hs_step 9 [.ref x, .ref O] h 1 6 (fun v h' => v = some (.int 1) ∧ h' = h) := by
  refine xMW_of (by decide) (Nat.le_of_ble_eq_true rfl) (fun K C hcat => ?_)
  show K 1 6 h 0 [(0, .ref x), (1, .ref O)] []
  refine x_aload_n C d_La_step_0 rfl rfl ?_
  refine x_iconst (v := 0) C d_La_step_1 (by decide) ?_
  refine x_aload_n C d_La_step_2 rfl rfl ?_
  refine hcat _ _ _ _ _ _ _ _ _ 0 0 _ _ _ _ _ _ _ _ _ _ 11 ml_step v_CB_step d_La_step_3 hM fx rfl (by rfl) (by rfl) (by decide) (by decide) (Nat.le_of_ble_eq_true rfl) ch_stepS cs_S (fun q => ?_)
  refine x_astore_n (lv' := [(2, _), (0, _), (1, _)]) C d_La_step_11 rfl (by decide) (by rfl) ?_
  refine x_iconst (v := 1) C d_La_step_12 (by decide) ?_
  refine x_iret C d_La_step_13 ?_
  exact ⟨rfl, rfl⟩
set_option maxRecDepth 20000 in
set_option maxHeartbeats 1000000 in
theorem m_La_reset {V : xV} {h : xH} {x O : Nat} {fs : List Value} {o : Nat → Int64} (fx : h x = some (.inr (7, fs))) (fO : h O = some (xJ V 1 o)) {Qp : Option Value → xH → Prop} (hM : xM V y_CB_reset b_CB_reset 2 (some .int) 8 [.ref x] h 0 0 Qp) (hi : ∀ v h', Qp v h' → ∃ an : Int32, v = some (.int an)) (hk : ∀ v h', Qp v h' → h' O = some (xJ V 1 o)) : xMW V y_La_reset b_La_reset 3 (some .int) hs_reset 9 [.ref x, .ref O] h 0 0 (fun v h' => v = some (.int 0) ∧ ∃ an h1, Qp (some (.int an)) h1 ∧ h' = va_up h1 O (some (xJ V 1 (vp_updL o 0 (an.toInt64))))) := by
  refine xMW_of (by decide) (Nat.le_of_ble_eq_true rfl) (fun K C hcat => ?_)
  show K 0 0 h 0 [(0, .ref x), (1, .ref O)] []
  refine x_aload_n C d_La_reset_0 rfl rfl ?_
  refine x_iconst (v := 0) C d_La_reset_1 (by decide) ?_
  refine x_aload_n C d_La_reset_2 rfl rfl ?_
  refine x_callV C l_La_21 v_CB_reset d_La_reset_3 (hM) (by assumption) rfl (by rfl) (by rfl) (by decide) (by decide) (Nat.le_of_ble_eq_true rfl) ?_
  rintro v9 h9 hQ
  obtain ⟨an, rfl⟩ := hi _ _ hQ
  have fO := hk _ _ hQ
  refine x_i2l C d_La_reset_6 ?_
  refine x_last C d_La_reset_7 fO (vp_in_nI (n := 0) (by decide) (by decide)) (fun h1 u1 => ?_)
  have fO := xUp_at u1
  refine x_goto (tgt := 14) C d_La_reset_8 rfl ?_
  refine x_iconst (v := 0) C d_La_reset_14 (by decide) ?_
  refine x_iret C d_La_reset_15 ?_
  exact ⟨rfl, an, h9, hQ, by rw [u1]; rfl⟩
set_option maxRecDepth 20000 in
set_option maxHeartbeats 1000000 in
theorem m_La_resetS {V : xV} {h : xH} {x O : Nat} {fs : List Value} (fx : h x = some (.inr (7, fs))) (hM : xMT V y_CB_reset b_CB_reset 2 (some .int) 8 [.ref x] h "java/lang/IllegalStateException") : xMW V y_La_reset b_La_reset 3 (some .int) hs_reset 9 [.ref x, .ref O] h 1 6 (fun v h' => v = some (.int 1) ∧ h' = h) := by
  refine xMW_of (by decide) (Nat.le_of_ble_eq_true rfl) (fun K C hcat => ?_)
  show K 1 6 h 0 [(0, .ref x), (1, .ref O)] []
  refine x_aload_n C d_La_reset_0 rfl rfl ?_
  refine x_iconst (v := 0) C d_La_reset_1 (by decide) ?_
  refine x_aload_n C d_La_reset_2 rfl rfl ?_
  refine hcat _ _ _ _ _ _ _ _ _ 0 0 _ _ _ _ _ _ _ _ _ _ 11 ml_reset v_CB_reset d_La_reset_3 hM fx rfl (by rfl) (by rfl) (by decide) (by decide) (Nat.le_of_ble_eq_true rfl) ch_resetS cs_S (fun q => ?_)
  refine x_astore_n (lv' := [(2, _), (0, _), (1, _)]) C d_La_reset_11 rfl (by decide) (by rfl) ?_
  refine x_iconst (v := 1) C d_La_reset_12 (by decide) ?_
  refine x_iret C d_La_reset_13 ?_
  exact ⟨rfl, rfl⟩
set_option maxRecDepth 20000 in
set_option maxHeartbeats 1000000 in
theorem m_La_width {V : xV} {h : xH} {x O : Nat} {fs : List Value} {o : Nat → Int64} (fx : h x = some (.inr (7, fs))) (fO : h O = some (xJ V 1 o)) {Qp : Option Value → xH → Prop} (hM : xM V y_CB_width b_CB_width 1 (some .int) 8 [.ref x] h 0 0 Qp) (hi : ∀ v h', Qp v h' → ∃ an : Int32, v = some (.int an)) (hk : ∀ v h', Qp v h' → h' O = some (xJ V 1 o)) : xMW V y_La_width b_La_width 3 (some .int) hs_width 9 [.ref x, .ref O] h 0 0 (fun v h' => v = some (.int 0) ∧ ∃ an h1, Qp (some (.int an)) h1 ∧ h' = va_up h1 O (some (xJ V 1 (vp_updL o 0 (an.toInt64))))) := by
  refine xMW_of (by decide) (Nat.le_of_ble_eq_true rfl) (fun K C hcat => ?_)
  show K 0 0 h 0 [(0, .ref x), (1, .ref O)] []
  refine x_aload_n C d_La_width_0 rfl rfl ?_
  refine x_iconst (v := 0) C d_La_width_1 (by decide) ?_
  refine x_aload_n C d_La_width_2 rfl rfl ?_
  refine x_callV C l_La_24 v_CB_width d_La_width_3 (hM) (by assumption) rfl (by rfl) (by rfl) (by decide) (by decide) (Nat.le_of_ble_eq_true rfl) ?_
  rintro v9 h9 hQ
  obtain ⟨an, rfl⟩ := hi _ _ hQ
  have fO := hk _ _ hQ
  refine x_i2l C d_La_width_6 ?_
  refine x_last C d_La_width_7 fO (vp_in_nI (n := 0) (by decide) (by decide)) (fun h1 u1 => ?_)
  have fO := xUp_at u1
  refine x_goto (tgt := 14) C d_La_width_8 rfl ?_
  refine x_iconst (v := 0) C d_La_width_14 (by decide) ?_
  refine x_iret C d_La_width_15 ?_
  exact ⟨rfl, an, h9, hQ, by rw [u1]; rfl⟩
set_option maxRecDepth 20000 in
set_option maxHeartbeats 1000000 in
theorem m_La_widthS {V : xV} {h : xH} {x O : Nat} {fs : List Value} (fx : h x = some (.inr (7, fs))) (hM : xMT V y_CB_width b_CB_width 1 (some .int) 8 [.ref x] h "java/lang/IllegalStateException") : xMW V y_La_width b_La_width 3 (some .int) hs_width 9 [.ref x, .ref O] h 1 6 (fun v h' => v = some (.int 1) ∧ h' = h) := by
  refine xMW_of (by decide) (Nat.le_of_ble_eq_true rfl) (fun K C hcat => ?_)
  show K 1 6 h 0 [(0, .ref x), (1, .ref O)] []
  refine x_aload_n C d_La_width_0 rfl rfl ?_
  refine x_iconst (v := 0) C d_La_width_1 (by decide) ?_
  refine x_aload_n C d_La_width_2 rfl rfl ?_
  refine hcat _ _ _ _ _ _ _ _ _ 0 0 _ _ _ _ _ _ _ _ _ _ 11 ml_width v_CB_width d_La_width_3 hM fx rfl (by rfl) (by rfl) (by decide) (by decide) (Nat.le_of_ble_eq_true rfl) ch_widthS cs_S (fun q => ?_)
  refine x_astore_n (lv' := [(2, _), (0, _), (1, _)]) C d_La_width_11 rfl (by decide) (by rfl) ?_
  refine x_iconst (v := 1) C d_La_width_12 (by decide) ?_
  refine x_iret C d_La_width_13 ?_
  exact ⟨rfl, rfl⟩
set_option maxRecDepth 20000 in
set_option maxHeartbeats 1000000 in
theorem m_La_column {V : xV} {h : xH} {x O : Nat} {fs : List Value} {o : Nat → Int64} {i : Int32} (fx : h x = some (.inr (7, fs))) (fO : h O = some (xJ V 1 o)) {Qp : Option Value → xH → Prop} (hM : xM V y_CB_column b_CB_column 2 (some .long) 8 [.ref x, .int i] h 0 0 Qp) (hi : ∀ v h', Qp v h' → ∃ an : Int64, v = some (.long an)) (hk : ∀ v h', Qp v h' → h' O = some (xJ V 1 o)) : xMW V y_La_column b_La_column 4 (some .int) hs_column 9 [.ref x, .int i, .ref O] h 0 0 (fun v h' => v = some (.int 0) ∧ ∃ an h1, Qp (some (.long an)) h1 ∧ h' = va_up h1 O (some (xJ V 1 (vp_updL o 0 (an))))) := by
  refine xMW_of (by decide) (Nat.le_of_ble_eq_true rfl) (fun K C hcat => ?_)
  show K 0 0 h 0 [(0, .ref x), (1, .int i), (2, .ref O)] []
  refine x_aload_n C d_La_column_0 rfl rfl ?_
  refine x_iconst (v := 0) C d_La_column_1 (by decide) ?_
  refine x_aload_n C d_La_column_2 rfl rfl ?_
  refine x_iload_n C d_La_column_3 rfl rfl ?_
  refine x_callV C l_La_27 v_CB_column d_La_column_4 (hM) (by assumption) rfl (by rfl) (by rfl) (by decide) (by decide) (Nat.le_of_ble_eq_true rfl) ?_
  rintro v9 h9 hQ
  obtain ⟨an, rfl⟩ := hi _ _ hQ
  have fO := hk _ _ hQ
  refine x_last C d_La_column_7 fO (vp_in_nI (n := 0) (by decide) (by decide)) (fun h1 u1 => ?_)
  have fO := xUp_at u1
  refine x_goto (tgt := 17) C d_La_column_8 rfl ?_
  refine x_iconst (v := 0) C d_La_column_17 (by decide) ?_
  refine x_iret C d_La_column_18 ?_
  exact ⟨rfl, an, h9, hQ, by rw [u1]; rfl⟩
set_option maxRecDepth 20000 in
set_option maxHeartbeats 1000000 in
theorem m_La_columnS {V : xV} {h : xH} {x O : Nat} {fs : List Value} {i : Int32} (fx : h x = some (.inr (7, fs))) (hM : xMT V y_CB_column b_CB_column 2 (some .long) 8 [.ref x, .int i] h "java/lang/IllegalStateException") : xMW V y_La_column b_La_column 4 (some .int) hs_column 9 [.ref x, .int i, .ref O] h 1 6 (fun v h' => v = some (.int 1) ∧ h' = h) := by
  refine xMW_of (by decide) (Nat.le_of_ble_eq_true rfl) (fun K C hcat => ?_)
  show K 1 6 h 0 [(0, .ref x), (1, .int i), (2, .ref O)] []
  refine x_aload_n C d_La_column_0 rfl rfl ?_
  refine x_iconst (v := 0) C d_La_column_1 (by decide) ?_
  refine x_aload_n C d_La_column_2 rfl rfl ?_
  refine x_iload_n C d_La_column_3 rfl rfl ?_
  refine hcat _ _ _ _ _ _ _ _ _ 0 0 _ _ _ _ _ _ _ _ _ _ 11 ml_column v_CB_column d_La_column_4 hM fx rfl (by rfl) (by rfl) (by decide) (by decide) (Nat.le_of_ble_eq_true rfl) ch_columnS cs_S (fun q => ?_)
  refine x_astore_n (lv' := [(3, _), (0, _), (1, _), (2, _)]) C d_La_column_11 rfl (by decide) (by rfl) ?_
  refine x_iconst (v := 1) C d_La_column_12 (by decide) ?_
  refine x_iret C d_La_column_13 ?_
  exact ⟨rfl, rfl⟩
set_option maxRecDepth 20000 in
set_option maxHeartbeats 1000000 in
theorem m_La_columnX {V : xV} {h : xH} {x O : Nat} {fs : List Value} {i : Int32} (fx : h x = some (.inr (7, fs))) (hM : xMT V y_CB_column b_CB_column 2 (some .long) 8 [.ref x, .int i] h "java/lang/IndexOutOfBoundsException") : xMW V y_La_column b_La_column 4 (some .int) hs_column 9 [.ref x, .int i, .ref O] h 1 6 (fun v h' => v = some (.int 2) ∧ h' = h) := by
  refine xMW_of (by decide) (Nat.le_of_ble_eq_true rfl) (fun K C hcat => ?_)
  show K 1 6 h 0 [(0, .ref x), (1, .int i), (2, .ref O)] []
  refine x_aload_n C d_La_column_0 rfl rfl ?_
  refine x_iconst (v := 0) C d_La_column_1 (by decide) ?_
  refine x_aload_n C d_La_column_2 rfl rfl ?_
  refine x_iload_n C d_La_column_3 rfl rfl ?_
  refine hcat _ _ _ _ _ _ _ _ _ 0 0 _ _ _ _ _ _ _ _ _ _ 14 ml_column v_CB_column d_La_column_4 hM fx rfl (by rfl) (by rfl) (by decide) (by decide) (Nat.le_of_ble_eq_true rfl) ch_columnX cs_X (fun q => ?_)
  refine x_astore_n (lv' := [(3, _), (0, _), (1, _), (2, _)]) C d_La_column_14 rfl (by decide) (by rfl) ?_
  refine x_iconst (v := 2) C d_La_column_15 (by decide) ?_
  refine x_iret C d_La_column_16 ?_
  exact ⟨rfl, rfl⟩
set_option maxRecDepth 20000 in
set_option maxHeartbeats 1000000 in
theorem m_La_rows {V : xV} {h : xH} {x O : Nat} {fs : List Value} {o : Nat → Int64} {i : Int32} (fx : h x = some (.inr (7, fs))) (fO : h O = some (xJ V 1 o)) {Qp : Option Value → xH → Prop} (hM : xM V y_CB_rows b_CB_rows 2 (some .int) 8 [.ref x, .int i] h 0 0 Qp) (hi : ∀ v h', Qp v h' → ∃ an : Int32, v = some (.int an)) (hk : ∀ v h', Qp v h' → h' O = some (xJ V 1 o)) : xMW V y_La_rows b_La_rows 4 (some .int) hs_rows 9 [.ref x, .int i, .ref O] h 0 0 (fun v h' => v = some (.int 0) ∧ ∃ an h1, Qp (some (.int an)) h1 ∧ h' = va_up h1 O (some (xJ V 1 (vp_updL o 0 (an.toInt64))))) := by
  refine xMW_of (by decide) (Nat.le_of_ble_eq_true rfl) (fun K C hcat => ?_)
  show K 0 0 h 0 [(0, .ref x), (1, .int i), (2, .ref O)] []
  refine x_aload_n C d_La_rows_0 rfl rfl ?_
  refine x_iconst (v := 0) C d_La_rows_1 (by decide) ?_
  refine x_aload_n C d_La_rows_2 rfl rfl ?_
  refine x_iload_n C d_La_rows_3 rfl rfl ?_
  refine x_callV C l_La_33 v_CB_rows d_La_rows_4 (hM) (by assumption) rfl (by rfl) (by rfl) (by decide) (by decide) (Nat.le_of_ble_eq_true rfl) ?_
  rintro v9 h9 hQ
  obtain ⟨an, rfl⟩ := hi _ _ hQ
  have fO := hk _ _ hQ
  refine x_i2l C d_La_rows_7 ?_
  refine x_last C d_La_rows_8 fO (vp_in_nI (n := 0) (by decide) (by decide)) (fun h1 u1 => ?_)
  have fO := xUp_at u1
  refine x_goto (tgt := 15) C d_La_rows_9 rfl ?_
  refine x_iconst (v := 0) C d_La_rows_15 (by decide) ?_
  refine x_iret C d_La_rows_16 ?_
  exact ⟨rfl, an, h9, hQ, by rw [u1]; rfl⟩
set_option maxRecDepth 20000 in
set_option maxHeartbeats 1000000 in
theorem m_La_rowsA {V : xV} {h : xH} {x O : Nat} {fs : List Value} {i : Int32} (fx : h x = some (.inr (7, fs))) (hM : xMT V y_CB_rows b_CB_rows 2 (some .int) 8 [.ref x, .int i] h "java/lang/IllegalArgumentException") : xMW V y_La_rows b_La_rows 4 (some .int) hs_rows 9 [.ref x, .int i, .ref O] h 1 6 (fun v h' => v = some (.int 1) ∧ h' = h) := by
  refine xMW_of (by decide) (Nat.le_of_ble_eq_true rfl) (fun K C hcat => ?_)
  show K 1 6 h 0 [(0, .ref x), (1, .int i), (2, .ref O)] []
  refine x_aload_n C d_La_rows_0 rfl rfl ?_
  refine x_iconst (v := 0) C d_La_rows_1 (by decide) ?_
  refine x_aload_n C d_La_rows_2 rfl rfl ?_
  refine x_iload_n C d_La_rows_3 rfl rfl ?_
  refine hcat _ _ _ _ _ _ _ _ _ 0 0 _ _ _ _ _ _ _ _ _ _ 12 ml_rows v_CB_rows d_La_rows_4 hM fx rfl (by rfl) (by rfl) (by decide) (by decide) (Nat.le_of_ble_eq_true rfl) ch_rowsA cs_A (fun q => ?_)
  refine x_astore_n (lv' := [(3, _), (0, _), (1, _), (2, _)]) C d_La_rows_12 rfl (by decide) (by rfl) ?_
  refine x_iconst (v := 1) C d_La_rows_13 (by decide) ?_
  refine x_iret C d_La_rows_14 ?_
  exact ⟨rfl, rfl⟩
set_option maxRecDepth 20000 in
set_option maxHeartbeats 1000000 in
theorem m_La_nearest {V : xV} {h : xH} {x O : Nat} {fs : List Value} {o : Nat → Int64} {a k u : Int32} (fx : h x = some (.inr (7, fs))) (fO : h O = some (xJ V 1 o)) {Qp : Option Value → xH → Prop} (hM : xM V y_CB_nearest b_CB_nearest 5 (some .int) 8 [.ref x, .int a, .int k, .int u] h 0 0 Qp) (hi : ∀ v h', Qp v h' → ∃ an : Int32, v = some (.int an)) (hk : ∀ v h', Qp v h' → h' O = some (xJ V 1 o)) : xMW V y_La_nearest b_La_nearest 6 (some .int) hs_nearest 9 [.ref x, .int a, .int k, .int u, .ref O] h 0 0 (fun v h' => v = some (.int 0) ∧ ∃ an h1, Qp (some (.int an)) h1 ∧ h' = va_up h1 O (some (xJ V 1 (vp_updL o 0 (an.toInt64))))) := by
  refine xMW_of (by decide) (Nat.le_of_ble_eq_true rfl) (fun K C hcat => ?_)
  show K 0 0 h 0 [(0, .ref x), (1, .int a), (2, .int k), (3, .int u), (4, .ref O)] []
  refine x_aload C d_La_nearest_0 rfl ?_
  refine x_iconst (v := 0) C d_La_nearest_2 (by decide) ?_
  refine x_aload_n C d_La_nearest_3 rfl rfl ?_
  refine x_iload_n C d_La_nearest_4 rfl rfl ?_
  refine x_iload_n C d_La_nearest_5 rfl rfl ?_
  refine x_iload_n C d_La_nearest_6 rfl rfl ?_
  refine x_callV C l_La_37 v_CB_nearest d_La_nearest_7 (hM) (by assumption) rfl (by rfl) (by rfl) (by decide) (by decide) (Nat.le_of_ble_eq_true rfl) ?_
  rintro v9 h9 hQ
  obtain ⟨an, rfl⟩ := hi _ _ hQ
  have fO := hk _ _ hQ
  refine x_i2l C d_La_nearest_10 ?_
  refine x_last C d_La_nearest_11 fO (vp_in_nI (n := 0) (by decide) (by decide)) (fun h1 u1 => ?_)
  have fO := xUp_at u1
  refine x_goto (tgt := 23) C d_La_nearest_12 rfl ?_
  refine x_iconst (v := 0) C d_La_nearest_23 (by decide) ?_
  refine x_iret C d_La_nearest_24 ?_
  exact ⟨rfl, an, h9, hQ, by rw [u1]; rfl⟩
set_option maxRecDepth 20000 in
set_option maxHeartbeats 1000000 in
theorem m_La_nearestA {V : xV} {h : xH} {x O : Nat} {fs : List Value} {a k u : Int32} (fx : h x = some (.inr (7, fs))) (hM : xMT V y_CB_nearest b_CB_nearest 5 (some .int) 8 [.ref x, .int a, .int k, .int u] h "java/lang/IllegalArgumentException") : xMW V y_La_nearest b_La_nearest 6 (some .int) hs_nearest 9 [.ref x, .int a, .int k, .int u, .ref O] h 1 6 (fun v h' => v = some (.int 1) ∧ h' = h) := by
  refine xMW_of (by decide) (Nat.le_of_ble_eq_true rfl) (fun K C hcat => ?_)
  show K 1 6 h 0 [(0, .ref x), (1, .int a), (2, .int k), (3, .int u), (4, .ref O)] []
  refine x_aload C d_La_nearest_0 rfl ?_
  refine x_iconst (v := 0) C d_La_nearest_2 (by decide) ?_
  refine x_aload_n C d_La_nearest_3 rfl rfl ?_
  refine x_iload_n C d_La_nearest_4 rfl rfl ?_
  refine x_iload_n C d_La_nearest_5 rfl rfl ?_
  refine x_iload_n C d_La_nearest_6 rfl rfl ?_
  refine hcat _ _ _ _ _ _ _ _ _ 0 0 _ _ _ _ _ _ _ _ _ _ 15 ml_nearest v_CB_nearest d_La_nearest_7 hM fx rfl (by rfl) (by rfl) (by decide) (by decide) (Nat.le_of_ble_eq_true rfl) ch_nearestA cs_A (fun q => ?_)
  refine x_astore (lv' := [(5, _), (0, _), (1, _), (2, _), (3, _), (4, _)]) C d_La_nearest_15 (by decide) (by rfl) ?_
  refine x_iconst (v := 1) C d_La_nearest_17 (by decide) ?_
  refine x_iret C d_La_nearest_18 ?_
  exact ⟨rfl, rfl⟩
set_option maxRecDepth 20000 in
set_option maxHeartbeats 1000000 in
theorem m_La_nearestS {V : xV} {h : xH} {x O : Nat} {fs : List Value} {a k u : Int32} (fx : h x = some (.inr (7, fs))) (hM : xMT V y_CB_nearest b_CB_nearest 5 (some .int) 8 [.ref x, .int a, .int k, .int u] h "java/lang/IllegalStateException") : xMW V y_La_nearest b_La_nearest 6 (some .int) hs_nearest 9 [.ref x, .int a, .int k, .int u, .ref O] h 1 6 (fun v h' => v = some (.int 2) ∧ h' = h) := by
  refine xMW_of (by decide) (Nat.le_of_ble_eq_true rfl) (fun K C hcat => ?_)
  show K 1 6 h 0 [(0, .ref x), (1, .int a), (2, .int k), (3, .int u), (4, .ref O)] []
  refine x_aload C d_La_nearest_0 rfl ?_
  refine x_iconst (v := 0) C d_La_nearest_2 (by decide) ?_
  refine x_aload_n C d_La_nearest_3 rfl rfl ?_
  refine x_iload_n C d_La_nearest_4 rfl rfl ?_
  refine x_iload_n C d_La_nearest_5 rfl rfl ?_
  refine x_iload_n C d_La_nearest_6 rfl rfl ?_
  refine hcat _ _ _ _ _ _ _ _ _ 0 0 _ _ _ _ _ _ _ _ _ _ 19 ml_nearest v_CB_nearest d_La_nearest_7 hM fx rfl (by rfl) (by rfl) (by decide) (by decide) (Nat.le_of_ble_eq_true rfl) ch_nearestS cs_S (fun q => ?_)
  refine x_astore (lv' := [(5, _), (0, _), (1, _), (2, _), (3, _), (4, _)]) C d_La_nearest_19 (by decide) (by rfl) ?_
  refine x_iconst (v := 2) C d_La_nearest_21 (by decide) ?_
  refine x_iret C d_La_nearest_22 ?_
  exact ⟨rfl, rfl⟩
