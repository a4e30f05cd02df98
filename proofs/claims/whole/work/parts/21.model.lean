/-! CursorBaseModel: leaves -/
set_option maxRecDepth 20000 in
set_option maxHeartbeats 1000000 in
theorem m_Mo_thrown {V : xV} {h : xH} {t : Int32} {m : Nat} {fs : List Value} (fm : h m = some (.inr (8, fs))) (hlen : fs.length = 29) (g_thrown : fs[0]? = some (.int t)) : xM V y_Mo_thrown b_Mo_thrown 1 (some .int) 0 [.ref m] h 0 0 (fun v h' => h' = h ∧ v = some (.int t)) := by
  refine xM_of false (by decide) (fun h => nomatch h) (Nat.le_of_ble_eq_true rfl) (fun K C => ?_)
  show K 0 0 h 0 [(0, .ref m)] []
  refine x_aload_n C d_Mo_thrown_0 rfl rfl ?_
  refine x_get C k_Mo f_Mo_31 d_Mo_thrown_1 fm g_thrown ?_
  refine x_iret C d_Mo_thrown_4 ?_
  exact ⟨rfl, rfl⟩
set_option maxRecDepth 20000 in
set_option maxHeartbeats 1000000 in
theorem m_Mo_isKind {V : xV} {h : xH} {mki mnu n p : Nat} {ks ns : Nat → Int32} {m : Nat} {fs : List Value} (fm : h m = some (.inr (8, fs))) (hlen : fs.length = 29) (g_kinds : fs[5]? = some (.ref mki)) (g_numbers : fs[6]? = some (.ref mnu)) (g_pending : fs[7]? = some (.int (nI n))) (g_read : fs[23]? = some (.int (nI p))) (fki : h mki = some (xI V 60 ks)) (fnu : h mnu = some (xI V 60 ns)) (hn60 : n ≤ 60) (hp : p ≤ 60) (k : Int32) : xM V y_Mo_isKind b_Mo_isKind 2 (some .boolean) 0 [.ref m, .int k] h 0 0 (fun v h' => h' = h ∧ v = some (.int (bI (tK ks n p k)))) := by
  refine xM_of false (by decide) (fun h => nomatch h) (Nat.le_of_ble_eq_true rfl) (fun K C => ?_)
  show K 0 0 h 0 [(0, .ref m), (1, .int k)] []
  refine x_aload_n C d_Mo_isKind_0 rfl rfl ?_
  refine x_get C k_Mo f_Mo_52 d_Mo_isKind_1 fm g_read ?_
  refine x_aload_n C d_Mo_isKind_4 rfl rfl ?_
  refine x_get C k_Mo f_Mo_49 d_Mo_isKind_5 fm g_pending ?_
  refine x_icmp_ge (tgt := 28) C d_Mo_isKind_8 rfl (fun q8 => ?_) (fun q8 => ?_)
  · skip
    have hpn := nge_of q8 (by omega)
    refine x_iconst (v := 0) C d_Mo_isKind_28 (by decide) ?_
    refine x_zret C d_Mo_isKind_29 (by rfl) ?_
    refine ⟨rfl, ?_⟩
    unfold tK
    first | (rw [decide_eq_false (by omega : ¬ p < n)]; rfl) | (rw [decide_eq_true hpn]; first | (rw [decide_eq_false q21]; rfl) | (rw [decide_eq_true q21]; rfl))
  · skip
    have hpn := nlt_of q8 (by omega) (by omega)
    refine x_aload_n C d_Mo_isKind_11 rfl rfl ?_
    refine x_get C k_Mo f_Mo_19 d_Mo_isKind_12 fm g_kinds ?_
    refine x_aload_n C d_Mo_isKind_15 rfl rfl ?_
    refine x_get C k_Mo f_Mo_52 d_Mo_isKind_16 fm g_read ?_
    refine x_iald C d_Mo_isKind_19 fki (vp_in_nI (by omega) (by decide)) ?_
    rw [nI_clamp (by omega)]
    refine x_iload_n C d_Mo_isKind_20 rfl rfl ?_
    refine x_icmp_ne (tgt := 28) C d_Mo_isKind_21 rfl (fun q21 => ?_) (fun q21 => ?_)
    · skip
      refine x_iconst (v := 0) C d_Mo_isKind_28 (by decide) ?_
      refine x_zret C d_Mo_isKind_29 (by rfl) ?_
      refine ⟨rfl, ?_⟩
      unfold tK
      first | (rw [decide_eq_false (by omega : ¬ p < n)]; rfl) | (rw [decide_eq_true hpn]; first | (rw [decide_eq_false q21]; rfl) | (rw [decide_eq_true q21]; rfl))
    · skip
      refine x_iconst (v := 1) C d_Mo_isKind_24 (by decide) ?_
      refine x_goto (tgt := 29) C d_Mo_isKind_25 rfl ?_
      refine x_zret C d_Mo_isKind_29 (by rfl) ?_
      refine ⟨rfl, ?_⟩
      unfold tK
      first | (rw [decide_eq_false (by omega : ¬ p < n)]; rfl) | (rw [decide_eq_true hpn]; first | (rw [decide_eq_false q21]; rfl) | (rw [decide_eq_true q21]; rfl))
set_option maxRecDepth 20000 in
set_option maxHeartbeats 1000000 in
theorem m_Mo_isWord {V : xV} {h : xH} {mki mnu n p : Nat} {ks ns : Nat → Int32} {m : Nat} {fs : List Value} (fm : h m = some (.inr (8, fs))) (hlen : fs.length = 29) (g_kinds : fs[5]? = some (.ref mki)) (g_numbers : fs[6]? = some (.ref mnu)) (g_pending : fs[7]? = some (.int (nI n))) (g_read : fs[23]? = some (.int (nI p))) (fki : h mki = some (xI V 60 ks)) (fnu : h mnu = some (xI V 60 ns)) (hn60 : n ≤ 60) (hp : p ≤ 60) (wd : Int32) : xM V y_Mo_isWord b_Mo_isWord 2 (some .boolean) 1 [.ref m, .int wd] h 0 0 (fun v h' => h' = h ∧ v = some (.int (bI (tK ks n p 0 && decide (ns p = wd))))) := by
  refine xM_of false (by decide) (fun h => nomatch h) (Nat.le_of_ble_eq_true rfl) (fun K C => ?_)
  show K 0 0 h 0 [(0, .ref m), (1, .int wd)] []
  refine x_aload_n C d_Mo_isWord_0 rfl rfl ?_
  refine x_iconst (v := 0) C d_Mo_isWord_1 (by decide) ?_
  refine x_callV C l_Mo_55 v_Mo_isKind d_Mo_isWord_2 (m_Mo_isKind fm hlen g_kinds g_numbers g_pending g_read fki fnu hn60 hp 0) fm rfl (by rfl) (by rfl) (by decide) (by decide) (Nat.le_of_ble_eq_true rfl) ?_
  rintro v9 h9 ⟨rfl, rfl⟩
  refine x_if_eq (tgt := 25) C d_Mo_isWord_5 rfl (fun q5 => ?_) (fun q5 => ?_)
  · skip
    replace q5 := bI_f q5
    refine x_iconst (v := 0) C d_Mo_isWord_25 (by decide) ?_
    refine x_zret C d_Mo_isWord_26 (by rfl) ?_
    refine ⟨rfl, ?_⟩
    first | (rw [q5]; rfl) | (rw [q5]; first | (rw [decide_eq_false q18]; rfl) | (rw [decide_eq_true q18]; rfl))
  · skip
    replace q5 := bI_t q5
    have hpn := (tK_iff.mp q5).1
    refine x_aload_n C d_Mo_isWord_8 rfl rfl ?_
    refine x_get C k_Mo f_Mo_22 d_Mo_isWord_9 fm g_numbers ?_
    refine x_aload_n C d_Mo_isWord_12 rfl rfl ?_
    refine x_get C k_Mo f_Mo_52 d_Mo_isWord_13 fm g_read ?_
    refine x_iald C d_Mo_isWord_16 fnu (vp_in_nI (by omega) (by decide)) ?_
    rw [nI_clamp (by omega)]
    refine x_iload_n C d_Mo_isWord_17 rfl rfl ?_
    refine x_icmp_ne (tgt := 25) C d_Mo_isWord_18 rfl (fun q18 => ?_) (fun q18 => ?_)
    · skip
      refine x_iconst (v := 0) C d_Mo_isWord_25 (by decide) ?_
      refine x_zret C d_Mo_isWord_26 (by rfl) ?_
      refine ⟨rfl, ?_⟩
      first | (rw [q5]; rfl) | (rw [q5]; first | (rw [decide_eq_false q18]; rfl) | (rw [decide_eq_true q18]; rfl))
    · skip
      refine x_iconst (v := 1) C d_Mo_isWord_21 (by decide) ?_
      refine x_goto (tgt := 26) C d_Mo_isWord_22 rfl ?_
      refine x_zret C d_Mo_isWord_26 (by rfl) ?_
      refine ⟨rfl, ?_⟩
      first | (rw [q5]; rfl) | (rw [q5]; first | (rw [decide_eq_false q18]; rfl) | (rw [decide_eq_true q18]; rfl))
set_option maxRecDepth 20000 in
set_option maxHeartbeats 1000000 in
theorem m_Mo_isThere {V : xV} {h : xH} {mco t : Nat} {c : Nat → Int32} {m : Nat} {fs : List Value} (fm : h m = some (.inr (8, fs))) (hlen : fs.length = 29) (g_columns : fs[1]? = some (.ref mco)) (fco : h mco = some (xI V 10 c)) (ht : t < 10) : xM V y_Mo_isThere b_Mo_isThere 2 (some .boolean) 0 [.ref m, .int (nI t)] h 0 0 (fun v h' => h' = h ∧ v = some (.int (bI (!decide (c t ≤ 0))))) := by
  refine xM_of false (by decide) (fun h => nomatch h) (Nat.le_of_ble_eq_true rfl) (fun K C => ?_)
  show K 0 0 h 0 [(0, .ref m), (1, .int (nI t))] []
  refine x_aload_n C d_Mo_isThere_0 rfl rfl ?_
  refine x_get C k_Mo f_Mo_7 d_Mo_isThere_1 fm g_columns ?_
  refine x_iload_n C d_Mo_isThere_4 rfl rfl ?_
  refine x_iald C d_Mo_isThere_5 fco (vp_in_nI ht (by decide)) ?_
  rw [nI_clamp (by omega)]
  refine x_if_le (tgt := 13) C d_Mo_isThere_6 rfl (fun q6 => ?_) (fun q6 => ?_)
  · skip
    refine x_iconst (v := 0) C d_Mo_isThere_13 (by decide) ?_
    refine x_zret C d_Mo_isThere_14 (by rfl) ?_
    exact ⟨rfl, by simp [bI, *]⟩
  · skip
    refine x_iconst (v := 1) C d_Mo_isThere_9 (by decide) ?_
    refine x_goto (tgt := 14) C d_Mo_isThere_10 rfl ?_
    refine x_zret C d_Mo_isThere_14 (by rfl) ?_
    exact ⟨rfl, by simp [bI, *]⟩
set_option maxRecDepth 20000 in
set_option maxHeartbeats 1000000 in
theorem m_Mo_begins {V : xV} {h : xH} {m : Nat} {fs : List Value} (fm : h m = some (.inr (8, fs))) (hlen : fs.length = 29) : xM V y_Mo_begins b_Mo_begins 1 none 0 [.ref m] h 0 0 (fun v h' => v = none ∧ ∃ fs', h' m = some (.inr (8, fs')) ∧ mUp [17, 18, 19, 20, 21] fs fs' ∧ fs'[17]? = some (.int 0) ∧ fs'[18]? = some (.int 0) ∧ fs'[19]? = some (.int (-1)) ∧ fs'[20]? = some (.int (-1)) ∧ fs'[21]? = some (.int 0) ∧ xKeep [m] h h') := by
  refine xM_of false (by decide) (fun h => nomatch h) (Nat.le_of_ble_eq_true rfl) (fun K C => ?_)
  show K 0 0 h 0 [(0, .ref m)] []
  have kp : xKeep [m] h h := xKeep.rf
  have mu : mUp [17, 18, 19, 20, 21] fs fs := mUp.rf
  refine x_aload_n C d_Mo_begins_0 rfl rfl ?_
  refine x_iconst (v := 0) C d_Mo_begins_1 (by decide) ?_
  refine x_put C k_Mo f_Mo_136 d_Mo_begins_2 fm (by rfl) (by rfl) (by rfl) (by omega) rfl (fun h1 u1 => ?_)
  have fm := xUp_at u1
  have kp := kp.up u1 (by simp)
  have g_state := gs_eq fm hlen (by decide)
  have mu := mu.setF fm (by decide)
  have hlen := gs_len fm hlen
  refine x_aload_n C d_Mo_begins_5 rfl rfl ?_
  refine x_iconst (v := 0) C d_Mo_begins_6 (by decide) ?_
  refine x_put C k_Mo f_Mo_139 d_Mo_begins_7 fm (by rfl) (by rfl) (by rfl) (by omega) rfl (fun h2 u2 => ?_)
  have fm := xUp_at u2
  have kp := kp.up u2 (by simp)
  have g_state := gs_ne fm g_state (by decide)
  have g_given := gs_eq fm hlen (by decide)
  have mu := mu.setF fm (by decide)
  have hlen := gs_len fm hlen
  refine x_aload_n C d_Mo_begins_10 rfl rfl ?_
  refine x_iconst (v := -1) C d_Mo_begins_11 (by decide) ?_
  refine x_put C k_Mo f_Mo_142 d_Mo_begins_12 fm (by rfl) (by rfl) (by rfl) (by omega) rfl (fun h3 u3 => ?_)
  have fm := xUp_at u3
  have kp := kp.up u3 (by simp)
  have g_state := gs_ne fm g_state (by decide)
  have g_given := gs_ne fm g_given (by decide)
  have g_at := gs_eq fm hlen (by decide)
  have mu := mu.setF fm (by decide)
  have hlen := gs_len fm hlen
  refine x_aload_n C d_Mo_begins_15 rfl rfl ?_
  refine x_iconst (v := -1) C d_Mo_begins_16 (by decide) ?_
  refine x_put C k_Mo f_Mo_145 d_Mo_begins_17 fm (by rfl) (by rfl) (by rfl) (by omega) rfl (fun h4 u4 => ?_)
  have fm := xUp_at u4
  have kp := kp.up u4 (by simp)
  have g_state := gs_ne fm g_state (by decide)
  have g_given := gs_ne fm g_given (by decide)
  have g_at := gs_ne fm g_at (by decide)
  have g_beside := gs_eq fm hlen (by decide)
  have mu := mu.setF fm (by decide)
  have hlen := gs_len fm hlen
  refine x_aload_n C d_Mo_begins_20 rfl rfl ?_
  refine x_iconst (v := 0) C d_Mo_begins_21 (by decide) ?_
  refine x_put C k_Mo f_Mo_148 d_Mo_begins_22 fm (by rfl) (by rfl) (by rfl) (by omega) rfl (fun h5 u5 => ?_)
  have fm := xUp_at u5
  have kp := kp.up u5 (by simp)
  have g_state := gs_ne fm g_state (by decide)
  have g_given := gs_ne fm g_given (by decide)
  have g_at := gs_ne fm g_at (by decide)
  have g_beside := gs_ne fm g_beside (by decide)
  have g_row := gs_eq fm hlen (by decide)
  have mu := mu.setF fm (by decide)
  have hlen := gs_len fm hlen
  refine x_vret C d_Mo_begins_25 ?_
  exact ⟨rfl, _, fm, mu, g_state, g_given, g_at, g_beside, g_row, kp⟩
set_option maxRecDepth 20000 in
set_option maxHeartbeats 1000000 in
theorem m_Mo_skips {V : xV} {h : xH} {mki mnu n p : Nat} {ks ns : Nat → Int32} {m : Nat} {fs : List Value} (fm : h m = some (.inr (8, fs))) (hlen : fs.length = 29) (g_kinds : fs[5]? = some (.ref mki)) (g_numbers : fs[6]? = some (.ref mnu)) (g_pending : fs[7]? = some (.int (nI n))) (g_read : fs[23]? = some (.int (nI p))) (fki : h mki = some (xI V 60 ks)) (fnu : h mnu = some (xI V 60 ns)) (hn60 : n ≤ 60) (hp : p ≤ 60) (wd : Int32) : xM V y_Mo_skips b_Mo_skips 2 (some .boolean) 2 [.ref m, .int wd] h 0 0 (fun v h' => v = some (.int (bI (tS ks ns n p wd))) ∧ ∃ fs', h' m = some (.inr (8, fs')) ∧ mUp [23] fs fs' ∧ fs'[23]? = some (.int (nI (if tS ks ns n p wd = true then p + 1 else p))) ∧ xKeep [m] h h') := by
  refine xM_of false (by decide) (fun h => nomatch h) (Nat.le_of_ble_eq_true rfl) (fun K C => ?_)
  show K 0 0 h 0 [(0, .ref m), (1, .int wd)] []
  have kp : xKeep [m] h h := xKeep.rf
  refine x_aload_n C d_Mo_skips_0 rfl rfl ?_
  refine x_iload_n C d_Mo_skips_1 rfl rfl ?_
  refine x_callV C l_Mo_59 v_Mo_isWord d_Mo_skips_2 (m_Mo_isWord fm hlen g_kinds g_numbers g_pending g_read fki fnu hn60 hp wd) fm rfl (by rfl) (by rfl) (by decide) (by decide) (Nat.le_of_ble_eq_true rfl) ?_
  rintro v9 h9 ⟨rfl, rfl⟩
  rw [show (tK ks n p 0 && decide (ns p = wd)) = tS ks ns n p wd from rfl]
  refine x_if_ne (tgt := 10) C d_Mo_skips_5 rfl (fun q5 => ?_) (fun q5 => ?_)
  · skip
    replace q5 := bI_t q5
    refine x_aload_n C d_Mo_skips_10 rfl rfl ?_
    refine x_dup C d_Mo_skips_11 rfl ?_
    refine x_get C k_Mo f_Mo_52 d_Mo_skips_12 fm g_read ?_
    refine x_iconst (v := 1) C d_Mo_skips_15 (by decide) ?_
    refine x_iadd C d_Mo_skips_16 ?_
    refine x_put C k_Mo f_Mo_52 d_Mo_skips_17 fm (by rfl) (by rfl) (by rfl) (by omega) rfl (fun h1 u1 => ?_)
    have fki := xUp_ne u1 fki (by first | assumption | exact Ne.symm (by assumption) | exact x_ne fki fm (by simp))
    have fnu := xUp_ne u1 fnu (by first | assumption | exact Ne.symm (by assumption) | exact x_ne fnu fm (by simp))
    have fm := xUp_at u1
    have kp := kp.up u1 (by simp)
    have g_kinds := gs_ne fm g_kinds (by decide)
    have g_numbers := gs_ne fm g_numbers (by decide)
    have g_pending := gs_ne fm g_pending (by decide)
    have g_read := gs_eq fm hlen (by decide)
    have hlen := gs_len fm hlen
    refine x_iconst (v := 1) C d_Mo_skips_20 (by decide) ?_
    refine x_zret C d_Mo_skips_21 (by rfl) ?_
    exact ⟨by rw [q5]; rfl, _, fm, mUp.rf.set (by decide), by rw [if_pos q5, g_read, nI_1], kp⟩
  · skip
    replace q5 := bI_f q5
    refine x_iconst (v := 0) C d_Mo_skips_8 (by decide) ?_
    refine x_zret C d_Mo_skips_9 (by rfl) ?_
    exact ⟨by rw [q5]; rfl, fs, fm, mUp.rf, by rw [if_neg (by rw [q5]; decide)]; exact g_read, kp⟩
set_option maxRecDepth 20000 in
set_option maxHeartbeats 1000000 in
theorem m_Mo_readsTable {V : xV} {h : xH} {mki mnu n p : Nat} {ks ns : Nat → Int32} {m : Nat} {fs : List Value} (fm : h m = some (.inr (8, fs))) (hlen : fs.length = 29) (g_kinds : fs[5]? = some (.ref mki)) (g_numbers : fs[6]? = some (.ref mnu)) (g_pending : fs[7]? = some (.int (nI n))) (g_read : fs[23]? = some (.int (nI p))) (fki : h mki = some (xI V 60 ks)) (fnu : h mnu = some (xI V 60 ns)) (hn60 : n ≤ 60) (hp : p ≤ 60) : xM V y_Mo_readsTable b_Mo_readsTable 1 (some .int) 1 [.ref m] h 0 0 (fun v h' => v = some (.int (tT ks ns n p)) ∧ ∃ fs', h' m = some (.inr (8, fs')) ∧ mUp [23] fs fs' ∧ fs'[23]? = some (.int (nI (if tK ks n p 1 = true then p + 1 else p))) ∧ xKeep [m] h h') := by
  refine xM_of false (by decide) (fun h => nomatch h) (Nat.le_of_ble_eq_true rfl) (fun K C => ?_)
  show K 0 0 h 0 [(0, .ref m)] []
  have kp : xKeep [m] h h := xKeep.rf
  refine x_aload_n C d_Mo_readsTable_0 rfl rfl ?_
  refine x_iconst (v := 1) C d_Mo_readsTable_1 (by decide) ?_
  refine x_callV C l_Mo_55 v_Mo_isKind d_Mo_readsTable_2 (m_Mo_isKind fm hlen g_kinds g_numbers g_pending g_read fki fnu hn60 hp 1) fm rfl (by rfl) (by rfl) (by decide) (by decide) (Nat.le_of_ble_eq_true rfl) ?_
  rintro v9 h9 ⟨rfl, rfl⟩
  refine x_if_ne (tgt := 10) C d_Mo_readsTable_5 rfl (fun q5 => ?_) (fun q5 => ?_)
  · skip
    replace q5 := bI_t q5
    have hpn := (tK_iff.mp q5).1
    refine x_aload_n C d_Mo_readsTable_10 rfl rfl ?_
    refine x_dup C d_Mo_readsTable_11 rfl ?_
    refine x_get C k_Mo f_Mo_52 d_Mo_readsTable_12 fm g_read ?_
    refine x_iconst (v := 1) C d_Mo_readsTable_15 (by decide) ?_
    refine x_iadd C d_Mo_readsTable_16 ?_
    refine x_put C k_Mo f_Mo_52 d_Mo_readsTable_17 fm (by rfl) (by rfl) (by rfl) (by omega) rfl (fun h1 u1 => ?_)
    have fki := xUp_ne u1 fki (by first | assumption | exact Ne.symm (by assumption) | exact x_ne fki fm (by simp))
    have fnu := xUp_ne u1 fnu (by first | assumption | exact Ne.symm (by assumption) | exact x_ne fnu fm (by simp))
    have fm := xUp_at u1
    have kp := kp.up u1 (by simp)
    have g_kinds := gs_ne fm g_kinds (by decide)
    have g_numbers := gs_ne fm g_numbers (by decide)
    have g_pending := gs_ne fm g_pending (by decide)
    have g_read := gs_eq fm hlen (by decide)
    have hlen := gs_len fm hlen
    refine x_aload_n C d_Mo_readsTable_20 rfl rfl ?_
    refine x_get C k_Mo f_Mo_22 d_Mo_readsTable_21 fm g_numbers ?_
    refine x_aload_n C d_Mo_readsTable_24 rfl rfl ?_
    refine x_get C k_Mo f_Mo_52 d_Mo_readsTable_25 fm g_read ?_
    refine x_iconst (v := 1) C d_Mo_readsTable_28 (by decide) ?_
    refine x_isub C d_Mo_readsTable_29 ?_
    rw [nI_1, nI_pred]
    refine x_iald C d_Mo_readsTable_30 fnu (vp_in_nI (by omega) (by decide)) ?_
    rw [nI_clamp (by omega)]
    refine x_iret C d_Mo_readsTable_31 ?_
    exact ⟨by unfold tT; rw [if_pos q5], _, fm, mUp.rf.set (by decide), by rw [if_pos q5, g_read, nI_1], kp⟩
  · skip
    replace q5 := bI_f q5
    refine x_iconst (v := -1) C d_Mo_readsTable_8 (by decide) ?_
    refine x_iret C d_Mo_readsTable_9 ?_
    exact ⟨by unfold tT; rw [if_neg (by rw [q5]; decide)], fs, fm, mUp.rf, by rw [if_neg (by rw [q5]; decide)]; exact g_read, kp⟩
set_option maxRecDepth 20000 in
set_option maxHeartbeats 1000000 in
theorem m_Mo_readsOperand {V : xV} {h : xH} {mki mnu n p : Nat} {ks ns : Nat → Int32} {m : Nat} {fs : List Value} (fm : h m = some (.inr (8, fs))) (hlen : fs.length = 29) (g_kinds : fs[5]? = some (.ref mki)) (g_numbers : fs[6]? = some (.ref mnu)) (g_pending : fs[7]? = some (.int (nI n))) (g_read : fs[23]? = some (.int (nI p))) (fki : h mki = some (xI V 60 ks)) (fnu : h mnu = some (xI V 60 ns)) (hn60 : n ≤ 60) (hp : p ≤ 60) : xM V y_Mo_readsOperand b_Mo_readsOperand 1 (some .boolean) 1 [.ref m] h 0 0 (fun v h' => v = some (.int (bI (tOp ks n p))) ∧ ∃ fs', h' m = some (.inr (8, fs')) ∧ mUp [23] fs fs' ∧ fs'[23]? = some (.int (nI (if tOp ks n p = true then p + 1 else p))) ∧ xKeep [m] h h') := by
  refine xM_of false (by decide) (fun h => nomatch h) (Nat.le_of_ble_eq_true rfl) (fun K C => ?_)
  show K 0 0 h 0 [(0, .ref m)] []
  have kp : xKeep [m] h h := xKeep.rf
  refine x_aload_n C d_Mo_readsOperand_0 rfl rfl ?_
  refine x_iconst (v := 2) C d_Mo_readsOperand_1 (by decide) ?_
  refine x_callV C l_Mo_55 v_Mo_isKind d_Mo_readsOperand_2 (m_Mo_isKind fm hlen g_kinds g_numbers g_pending g_read fki fnu hn60 hp 2) fm rfl (by rfl) (by rfl) (by decide) (by decide) (Nat.le_of_ble_eq_true rfl) ?_
  rintro v9 h9 ⟨rfl, rfl⟩
  refine x_if_ne (tgt := 18) C d_Mo_readsOperand_5 rfl (fun q5 => ?_) (fun q5 => ?_)
  · skip
    replace q5 := bI_t q5
    refine x_aload_n C d_Mo_readsOperand_18 rfl rfl ?_
    refine x_dup C d_Mo_readsOperand_19 rfl ?_
    refine x_get C k_Mo f_Mo_52 d_Mo_readsOperand_20 fm g_read ?_
    refine x_iconst (v := 1) C d_Mo_readsOperand_23 (by decide) ?_
    refine x_iadd C d_Mo_readsOperand_24 ?_
    refine x_put C k_Mo f_Mo_52 d_Mo_readsOperand_25 fm (by rfl) (by rfl) (by rfl) (by omega) rfl (fun h1 u1 => ?_)
    have fki := xUp_ne u1 fki (by first | assumption | exact Ne.symm (by assumption) | exact x_ne fki fm (by simp))
    have fnu := xUp_ne u1 fnu (by first | assumption | exact Ne.symm (by assumption) | exact x_ne fnu fm (by simp))
    have fm := xUp_at u1
    have kp := kp.up u1 (by simp)
    have g_kinds := gs_ne fm g_kinds (by decide)
    have g_numbers := gs_ne fm g_numbers (by decide)
    have g_pending := gs_ne fm g_pending (by decide)
    have g_read := gs_eq fm hlen (by decide)
    have hlen := gs_len fm hlen
    refine x_iconst (v := 1) C d_Mo_readsOperand_28 (by decide) ?_
    refine x_zret C d_Mo_readsOperand_29 (by rfl) ?_
    have ho : tOp ks n p = true := by
      unfold tOp
      first | (rw [q5]; rfl) | (rw [q13]; exact Bool.or_true _)
    exact ⟨by rw [ho]; rfl, _, fm, mUp.rf.set (by decide), by rw [if_pos ho, g_read, nI_1], kp⟩
  · skip
    replace q5 := bI_f q5
    refine x_aload_n C d_Mo_readsOperand_8 rfl rfl ?_
    refine x_iconst (v := 3) C d_Mo_readsOperand_9 (by decide) ?_
    refine x_callV C l_Mo_55 v_Mo_isKind d_Mo_readsOperand_10 (m_Mo_isKind fm hlen g_kinds g_numbers g_pending g_read fki fnu hn60 hp 3) fm rfl (by rfl) (by rfl) (by decide) (by decide) (Nat.le_of_ble_eq_true rfl) ?_
    rintro v9 h9 ⟨rfl, rfl⟩
    refine x_if_ne (tgt := 18) C d_Mo_readsOperand_13 rfl (fun q13 => ?_) (fun q13 => ?_)
    · skip
      replace q13 := bI_t q13
      refine x_aload_n C d_Mo_readsOperand_18 rfl rfl ?_
      refine x_dup C d_Mo_readsOperand_19 rfl ?_
      refine x_get C k_Mo f_Mo_52 d_Mo_readsOperand_20 fm g_read ?_
      refine x_iconst (v := 1) C d_Mo_readsOperand_23 (by decide) ?_
      refine x_iadd C d_Mo_readsOperand_24 ?_
      refine x_put C k_Mo f_Mo_52 d_Mo_readsOperand_25 fm (by rfl) (by rfl) (by rfl) (by omega) rfl (fun h2 u2 => ?_)
      have fki := xUp_ne u2 fki (by first | assumption | exact Ne.symm (by assumption) | exact x_ne fki fm (by simp))
      have fnu := xUp_ne u2 fnu (by first | assumption | exact Ne.symm (by assumption) | exact x_ne fnu fm (by simp))
      have fm := xUp_at u2
      have kp := kp.up u2 (by simp)
      have g_kinds := gs_ne fm g_kinds (by decide)
      have g_numbers := gs_ne fm g_numbers (by decide)
      have g_pending := gs_ne fm g_pending (by decide)
      have g_read := gs_eq fm hlen (by decide)
      have hlen := gs_len fm hlen
      refine x_iconst (v := 1) C d_Mo_readsOperand_28 (by decide) ?_
      refine x_zret C d_Mo_readsOperand_29 (by rfl) ?_
      have ho : tOp ks n p = true := by
        unfold tOp
        first | (rw [q5]; rfl) | (rw [q13]; exact Bool.or_true _)
      exact ⟨by rw [ho]; rfl, _, fm, mUp.rf.set (by decide), by rw [if_pos ho, g_read, nI_1], kp⟩
    · skip
      replace q13 := bI_f q13
      refine x_iconst (v := 0) C d_Mo_readsOperand_16 (by decide) ?_
      refine x_zret C d_Mo_readsOperand_17 (by rfl) ?_
      have ho : tOp ks n p = false := by unfold tOp; rw [q5, q13]; rfl
      exact ⟨by rw [ho]; rfl, fs, fm, mUp.rf, by rw [if_neg (by rw [ho]; decide)]; exact g_read, kp⟩
set_option maxRecDepth 20000 in
set_option maxHeartbeats 1000000 in
theorem m_Mo_all {V : xV} {h : xH} {r : Int32} {m : Nat} {fs : List Value} (fm : h m = some (.inr (8, fs))) (hlen : fs.length = 29) (g_rows : fs[4]? = some (.int r)) : xM V y_Mo_all b_Mo_all 1 (some .int) 0 [.ref m] h 0 0 (fun v h' => v = some (.int r) ∧ h' m = some (.inr (8, fs.set 0 (.int 0))) ∧ xKeep [m] h h') := by
  refine xM_of false (by decide) (fun h => nomatch h) (Nat.le_of_ble_eq_true rfl) (fun K C => ?_)
  show K 0 0 h 0 [(0, .ref m)] []
  have kp : xKeep [m] h h := xKeep.rf
  refine x_aload_n C d_Mo_all_0 rfl rfl ?_
  refine x_iconst (v := 0) C d_Mo_all_1 (by decide) ?_
  refine x_put C k_Mo f_Mo_31 d_Mo_all_2 fm (by rfl) (by rfl) (by rfl) (by omega) rfl (fun h1 u1 => ?_)
  have fm := xUp_at u1
  have kp := kp.up u1 (by simp)
  have g_rows := gs_ne fm g_rows (by decide)
  have g_thrown := gs_eq fm hlen (by decide)
  have hlen := gs_len fm hlen
  refine x_aload_n C d_Mo_all_5 rfl rfl ?_
  refine x_get C k_Mo f_Mo_159 d_Mo_all_6 fm g_rows ?_
  refine x_iret C d_Mo_all_9 ?_
  exact ⟨rfl, fm, kp⟩
set_option maxRecDepth 20000 in
set_option maxHeartbeats 1000000 in
theorem m_Mo_in {V : xV} {h : xH} (a b c : Int64) : xM V y_Mo_in b_Mo_in 6 (some .boolean) 0 [.long a, .long b, .long c] h 0 0 (fun v h' => h' = h ∧ v = some (.int (bI (!decide (lg_cmp a b < 0) && !decide (0 < lg_cmp a c))))) := by
  refine xM_of false (by decide) (fun h => nomatch h) (Nat.le_of_ble_eq_true rfl) (fun K C => ?_)
  show K 0 0 h 0 [(0, .long a), (2, .long b), (4, .long c)] []
  refine x_lload_n C d_Mo_in_0 rfl rfl ?_
  refine x_lload_n C d_Mo_in_1 rfl rfl ?_
  refine x_lcmp C d_Mo_in_2 ?_
  refine x_if_lt (tgt := 17) C d_Mo_in_3 rfl (fun q3 => ?_) (fun q3 => ?_)
  · skip
    refine x_iconst (v := 0) C d_Mo_in_17 (by decide) ?_
    refine x_zret C d_Mo_in_18 (by rfl) ?_
    exact ⟨rfl, by simp [bI, *]⟩
  · skip
    refine x_lload_n C d_Mo_in_6 rfl rfl ?_
    refine x_lload C d_Mo_in_7 rfl ?_
    refine x_lcmp C d_Mo_in_9 ?_
    refine x_if_gt (tgt := 17) C d_Mo_in_10 rfl (fun q10 => ?_) (fun q10 => ?_)
    · skip
      refine x_iconst (v := 0) C d_Mo_in_17 (by decide) ?_
      refine x_zret C d_Mo_in_18 (by rfl) ?_
      exact ⟨rfl, by simp [bI, *]⟩
    · skip
      refine x_iconst (v := 1) C d_Mo_in_13 (by decide) ?_
      refine x_goto (tgt := 18) C d_Mo_in_14 rfl ?_
      refine x_zret C d_Mo_in_18 (by rfl) ?_
      exact ⟨rfl, by simp [bI, *]⟩
