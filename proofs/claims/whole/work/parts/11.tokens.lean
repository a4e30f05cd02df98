/-! CursorBase$Tokens -/
set_option maxRecDepth 20000 in
set_option maxHeartbeats 1000000 in
theorem m_To_isKind {V : xV} {h : xH} {T kr nr : Nat} {ks ns : Nat → Int32} {n : Nat} (pT : pTo V h T kr nr ks ns n) (a k : Int32) : xM V y_To_isKind b_To_isKind 3 (some .boolean) 0 [.ref T, .int a, .int k] h 0 0 (fun v h' => h' = h ∧ v = some (.int (bI (isKd ks n a k)))) := by
  refine xM_of false (by decide) (fun h => nomatch h) (Nat.le_of_ble_eq_true rfl) (fun K C => ?_)
  show K 0 0 h 0 [(0, .ref T), (1, .int a), (2, .int k)] []
  obtain ⟨fT, fkr, fnr, hkn, hn60⟩ := pT
  refine x_iload_n C d_To_isKind_0 rfl rfl ?_
  refine x_if_lt (tgt := 26) C d_To_isKind_1 rfl (fun q1 => ?_) (fun q1 => ?_)
  · skip
    refine x_iconst (v := 0) C d_To_isKind_26 (by decide) ?_
    refine x_zret C d_To_isKind_27 (by rfl) ?_
    exact ⟨rfl, by simp [bI, isKd, *]⟩
  · skip
    refine x_iload_n C d_To_isKind_4 rfl rfl ?_
    refine x_aload_n C d_To_isKind_5 rfl rfl ?_
    refine x_get C k_To f_To_22 d_To_isKind_6 fT (by rfl) ?_
    refine x_icmp_ge (tgt := 26) C d_To_isKind_9 rfl (fun q9 => ?_) (fun q9 => ?_)
    · skip
      refine x_iconst (v := 0) C d_To_isKind_26 (by decide) ?_
      refine x_zret C d_To_isKind_27 (by rfl) ?_
      exact ⟨rfl, by simp [bI, isKd, *]⟩
    · skip
      refine x_aload_n C d_To_isKind_12 rfl rfl ?_
      refine x_get C k_To f_To_9 d_To_isKind_13 fT (by rfl) ?_
      refine x_iload_n C d_To_isKind_16 rfl rfl ?_
      refine x_iald C d_To_isKind_17 fkr (in_of q1 q9 hn60 (by decide)) ?_
      refine x_iload_n C d_To_isKind_18 rfl rfl ?_
      refine x_icmp_ne (tgt := 26) C d_To_isKind_19 rfl (fun q19 => ?_) (fun q19 => ?_)
      · skip
        refine x_iconst (v := 0) C d_To_isKind_26 (by decide) ?_
        refine x_zret C d_To_isKind_27 (by rfl) ?_
        exact ⟨rfl, by simp [bI, isKd, *]⟩
      · skip
        refine x_iconst (v := 1) C d_To_isKind_22 (by decide) ?_
        refine x_goto (tgt := 27) C d_To_isKind_23 rfl ?_
        refine x_zret C d_To_isKind_27 (by rfl) ?_
        exact ⟨rfl, by simp [bI, isKd, *]⟩
set_option maxRecDepth 20000 in
set_option maxHeartbeats 1000000 in
theorem m_To_isFull {V : xV} {h : xH} {T kr nr : Nat} {ks ns : Nat → Int32} {n : Nat} (pT : pTo V h T kr nr ks ns n) : xM V y_To_isFull b_To_isFull 1 (some .boolean) 0 [.ref T] h 0 0 (fun v h' => h' = h ∧ v = some (.int (bI (!decide (nI n < 60))))) := by
  refine xM_of false (by decide) (fun h => nomatch h) (Nat.le_of_ble_eq_true rfl) (fun K C => ?_)
  show K 0 0 h 0 [(0, .ref T)] []
  obtain ⟨fT, fkr, fnr, hkn, hn60⟩ := pT
  refine x_aload_n C d_To_isFull_0 rfl rfl ?_
  refine x_get C k_To f_To_22 d_To_isFull_1 fT (by rfl) ?_
  refine x_bipush (v := 60) C d_To_isFull_4 (by decide) ?_
  refine x_icmp_lt (tgt := 13) C d_To_isFull_6 rfl (fun q6 => ?_) (fun q6 => ?_)
  · skip
    refine x_iconst (v := 0) C d_To_isFull_13 (by decide) ?_
    refine x_zret C d_To_isFull_14 (by rfl) ?_
    exact ⟨rfl, by simp [bI, *]⟩
  · skip
    refine x_iconst (v := 1) C d_To_isFull_9 (by decide) ?_
    refine x_goto (tgt := 14) C d_To_isFull_10 rfl ?_
    refine x_zret C d_To_isFull_14 (by rfl) ?_
    exact ⟨rfl, by simp [bI, *]⟩
set_option maxRecDepth 20000 in
set_option maxHeartbeats 1000000 in
theorem m_To_drop {V : xV} {h : xH} {T kr nr : Nat} {ks ns : Nat → Int32} {n : Nat} (pT : pTo V h T kr nr ks ns n) : xM V y_To_drop b_To_drop 1 none 0 [.ref T] h 0 0 (fun v h' => v = none ∧ h' = va_up h T (some (oTo kr nr 0))) := by
  refine xM_of false (by decide) (fun h => nomatch h) (Nat.le_of_ble_eq_true rfl) (fun K C => ?_)
  show K 0 0 h 0 [(0, .ref T)] []
  obtain ⟨fT, fkr, fnr, hkn, hn60⟩ := pT
  refine x_aload_n C d_To_drop_0 rfl rfl ?_
  refine x_iconst (v := 0) C d_To_drop_1 (by decide) ?_
  refine x_put (fs' := [_, _, _]) C k_To f_To_22 d_To_drop_2 fT (by rfl) (by rfl) (by rfl) (Nat.le_of_ble_eq_true rfl) (by rfl) (fun h1 u1 => ?_)
  have fkr := xUp_ne u1 fkr (by first | assumption | exact Ne.symm (by assumption) | exact x_ne fkr fT (by simp))
  have fnr := xUp_ne u1 fnr (by first | assumption | exact Ne.symm (by assumption) | exact x_ne fnr fT (by simp))
  have fT := xUp_at u1
  refine x_vret C d_To_drop_5 ?_
  exact ⟨rfl, u1⟩
set_option maxRecDepth 20000 in
set_option maxHeartbeats 1000000 in
theorem m_To_isColumnFrom {V : xV} {h : xH} (a k : Int32) : xM V y_To_isColumnFrom b_To_isColumnFrom 2 (some .boolean) 0 [.int a, .int k] h 0 0 (fun v h' => h' = h ∧ v = some (.int (bI (colIn a k)))) := by
  refine xM_of false (by decide) (fun h => nomatch h) (Nat.le_of_ble_eq_true rfl) (fun K C => ?_)
  show K 0 0 h 0 [(0, .int a), (1, .int k)] []
  refine x_iload_n C d_To_isColumnFrom_0 rfl rfl ?_
  refine x_iload_n C d_To_isColumnFrom_1 rfl rfl ?_
  refine x_icmp_lt (tgt := 17) C d_To_isColumnFrom_2 rfl (fun q2 => ?_) (fun q2 => ?_)
  · skip
    refine x_iconst (v := 0) C d_To_isColumnFrom_17 (by decide) ?_
    refine x_zret C d_To_isColumnFrom_18 (by rfl) ?_
    exact ⟨rfl, by simp [bI, colIn, *]⟩
  · skip
    refine x_iload_n C d_To_isColumnFrom_5 rfl rfl ?_
    refine x_iload_n C d_To_isColumnFrom_6 rfl rfl ?_
    refine x_bipush (v := 6) C d_To_isColumnFrom_7 (by decide) ?_
    refine x_iadd C d_To_isColumnFrom_9 ?_
    refine x_icmp_ge (tgt := 17) C d_To_isColumnFrom_10 rfl (fun q10 => ?_) (fun q10 => ?_)
    · skip
      refine x_iconst (v := 0) C d_To_isColumnFrom_17 (by decide) ?_
      refine x_zret C d_To_isColumnFrom_18 (by rfl) ?_
      exact ⟨rfl, by simp [bI, colIn, *]⟩
    · skip
      refine x_iconst (v := 1) C d_To_isColumnFrom_13 (by decide) ?_
      refine x_goto (tgt := 18) C d_To_isColumnFrom_14 rfl ?_
      refine x_zret C d_To_isColumnFrom_18 (by rfl) ?_
      exact ⟨rfl, by simp [bI, colIn, *]⟩
set_option maxRecDepth 20000 in
set_option maxHeartbeats 1000000 in
theorem m_To_put {V : xV} {h : xH} {T kr nr : Nat} {ks ns : Nat → Int32} {n : Nat} (pT : pTo V h T kr nr ks ns n) (hn : n < 60) (a k : Int32) : xM V y_To_put b_To_put 3 none 1 [.ref T, .int a, .int k] h 0 0 (fun v h' => v = none ∧ pTo V h' T kr nr (upd ks n a) (upd ns n k) (n + 1) ∧ xKeep [T, kr, nr] h h') := by
  refine xM_of false (by decide) (fun h => nomatch h) (Nat.le_of_ble_eq_true rfl) (fun K C => ?_)
  show K 0 0 h 0 [(0, .ref T), (1, .int a), (2, .int k)] []
  have kp : xKeep [T, kr, nr] h h := xKeep.rf
  obtain ⟨fT, fkr, fnr, hkn, hn60⟩ := pT
  have hlt : nI n < (60 : Int32) := nI_lt (b := 60) hn (by decide)
  refine x_aload_n C d_To_put_0 rfl rfl ?_
  refine x_callV C l_To_26 v_To_isFull d_To_put_1 (m_To_isFull ⟨fT, fkr, fnr, hkn, hn60⟩) fT rfl (by rfl) (by rfl) (by decide) (by decide) (Nat.le_of_ble_eq_true rfl) ?_
  rintro v h' ⟨rfl, rfl⟩
  refine x_if_eq (tgt := 8) C d_To_put_4 rfl (fun q4 => ?_) (fun q4 => ?_)
  · skip
    replace q4 := bI_f q4
    refine x_aload_n C d_To_put_8 rfl rfl ?_
    refine x_get C k_To f_To_9 d_To_put_9 fT (by rfl) ?_
    refine x_aload_n C d_To_put_12 rfl rfl ?_
    refine x_get C k_To f_To_22 d_To_put_13 fT (by rfl) ?_
    refine x_iload_n C d_To_put_16 rfl rfl ?_
    refine x_iast C d_To_put_17 fkr (vp_in_nI (by omega) (by decide)) (fun h1 u1 => ?_)
    have fT := xUp_ne u1 fT (by first | assumption | exact Ne.symm (by assumption) | exact x_ne fT fkr (by simp))
    have fnr := xUp_ne u1 fnr (by first | assumption | exact Ne.symm (by assumption) | exact x_ne fnr fkr (by simp))
    have fkr := xUp_at u1
    have kp := kp.up u1 (by simp)
    refine x_aload_n C d_To_put_18 rfl rfl ?_
    refine x_get C k_To f_To_15 d_To_put_19 fT (by rfl) ?_
    refine x_aload_n C d_To_put_22 rfl rfl ?_
    refine x_get C k_To f_To_22 d_To_put_23 fT (by rfl) ?_
    refine x_iload_n C d_To_put_26 rfl rfl ?_
    refine x_iast C d_To_put_27 fnr (vp_in_nI (by omega) (by decide)) (fun h2 u2 => ?_)
    have fT := xUp_ne u2 fT (by first | assumption | exact Ne.symm (by assumption) | exact x_ne fT fnr (by simp))
    have fkr := xUp_ne u2 fkr (by first | assumption | exact Ne.symm (by assumption) | exact x_ne fkr fnr (by simp))
    have fnr := xUp_at u2
    have kp := kp.up u2 (by simp)
    refine x_aload_n C d_To_put_28 rfl rfl ?_
    refine x_dup C d_To_put_29 rfl ?_
    refine x_get C k_To f_To_22 d_To_put_30 fT (by rfl) ?_
    refine x_iconst (v := 1) C d_To_put_33 (by decide) ?_
    refine x_iadd C d_To_put_34 ?_
    refine x_put (fs' := [_, _, _]) C k_To f_To_22 d_To_put_35 fT (by rfl) (by rfl) (by rfl) (Nat.le_of_ble_eq_true rfl) (by rfl) (fun h3 u3 => ?_)
    have fkr := xUp_ne u3 fkr (by first | assumption | exact Ne.symm (by assumption) | exact x_ne fkr fT (by simp))
    have fnr := xUp_ne u3 fnr (by first | assumption | exact Ne.symm (by assumption) | exact x_ne fnr fT (by simp))
    have fT := xUp_at u3
    have kp := kp.up u3 (by simp)
    refine x_vret C d_To_put_38 ?_
    refine ⟨rfl, ⟨by rw [fT, nI_1], by rw [fkr, nI_clamp (by omega)], by rw [fnr, nI_clamp (by omega)], hkn, hn⟩, kp⟩
  · skip
    replace q4 := bI_t q4
    exact absurd q4 (by simp [hlt])
set_option maxRecDepth 20000 in
set_option maxHeartbeats 1000000 in
theorem m_To_init {V : xV} {h : xH} {T : Nat} (fT : h T = some (.inr (6, [.null, .null, .int 0]))) : xM V y_To_init b_To_init 1 none 1 [.ref T] h 2 120 (fun v h' => v = none ∧ ∃ kr nr, pTo V h' T kr nr (fun _ => 0) (fun _ => 0) 0 ∧ h kr = none ∧ h nr = none ∧ xKeep [T] h h') := by
  refine xM_of true (by decide) (fun _ => rfl) (Nat.le_of_ble_eq_true rfl) (fun K C => ?_)
  show K 2 120 h 0 [(0, .ref T)] []
  have kp : xKeep [T] h h := xKeep.rf
  refine x_aload_n C d_To_init_0 rfl rfl ?_
  refine x_objInit C ⟨l_To_3, oi_i, oi_c⟩ (by decide) (Nat.le_of_ble_eq_true rfl) d_To_init_1 ?_
  refine x_aload_n C d_To_init_4 rfl rfl ?_
  refine x_bipush (v := 60) C d_To_init_5 (by decide) ?_
  refine x_newI (N := 60) C ac_int d_To_init_7 (by decide) (by decide) (by decide) (fun kr h1 n1 u1 => ?_)
  have x1_T := x_nn fT n1
  have fT := xUp_new u1 n1 fT
  have z_kr := kp.isn n1 (by simp only [List.mem_cons, List.not_mem_nil, or_false, not_or]; exact Ne.symm x1_T)
  have kp := kp.upN u1 z_kr
  have f_kr := xUp_at u1
  refine x_putF (fs' := [_, _, _]) C k_To g_To_9 d_To_init_9 fT (by rfl) (by rfl) (by rfl) (Nat.le_of_ble_eq_true rfl) (by rfl) (fun h2 u2 => ?_)
  have f_kr := xUp_ne u2 f_kr (by first | assumption | exact Ne.symm (by assumption) | exact x_ne f_kr fT (by simp))
  have fT := xUp_at u2
  have kp := kp.up u2 (by simp)
  refine x_aload_n C d_To_init_12 rfl rfl ?_
  refine x_bipush (v := 60) C d_To_init_13 (by decide) ?_
  refine x_newI (N := 60) C ac_int d_To_init_15 (by decide) (by decide) (by decide) (fun nr h3 n3 u3 => ?_)
  have x3_T := x_nn fT n3
  have x3_kr := x_nn f_kr n3
  have fT := xUp_new u3 n3 fT
  have f_kr := xUp_new u3 n3 f_kr
  have z_nr := kp.isn n3 (by simp only [List.mem_cons, List.not_mem_nil, or_false, not_or]; exact Ne.symm x3_T)
  have kp := kp.upN u3 z_nr
  have f_nr := xUp_at u3
  refine x_putF (fs' := [_, _, _]) C k_To g_To_15 d_To_init_17 fT (by rfl) (by rfl) (by rfl) (Nat.le_of_ble_eq_true rfl) (by rfl) (fun h4 u4 => ?_)
  have f_kr := xUp_ne u4 f_kr (by first | assumption | exact Ne.symm (by assumption) | exact x_ne f_kr fT (by simp))
  have f_nr := xUp_ne u4 f_nr (by first | assumption | exact Ne.symm (by assumption) | exact x_ne f_nr fT (by simp))
  have fT := xUp_at u4
  have kp := kp.up u4 (by simp)
  refine x_vret C d_To_init_20 ?_
  exact ⟨rfl, kr, nr, ⟨fT, f_kr, f_nr, x3_kr, by decide⟩, z_kr, z_nr, kp⟩
set_option maxRecDepth 20000 in
set_option maxHeartbeats 1000000 in
theorem m_To_isToken {V : xV} {h : xH} (k n : Int32) : xM V y_To_isToken b_To_isToken 2 (some .boolean) 1 [.int k, .int n] h 0 0 (fun v h' => h' = h ∧ v = some (.int (bI (tokOK k n)))) := by
  refine xM_of false (by decide) (fun h => nomatch h) (Nat.le_of_ble_eq_true rfl) (fun K C => ?_)
  show K 0 0 h 0 [(0, .int k), (1, .int n)] []
  refine x_iload_n C d_To_isToken_0 rfl rfl ?_
  rcases sw4 k with rfl | rfl | rfl | rfl | q1
  · skip
    refine x_tabIn (tgt := 32) C d_To_isToken_1 (by decide) (by decide) (by rfl) rfl ?_
    refine x_iload_n C d_To_isToken_32 rfl rfl ?_
    refine x_if_lt (tgt := 46) C d_To_isToken_33 rfl (fun q33 => ?_) (fun q33 => ?_)
    · skip
      refine x_iconst (v := 0) C d_To_isToken_46 (by decide) ?_
      refine x_zret C d_To_isToken_47 (by rfl) ?_
      exact ⟨rfl, by simp [bI, tokOK, *]⟩
    · skip
      refine x_iload_n C d_To_isToken_36 rfl rfl ?_
      refine x_bipush (v := 13) C d_To_isToken_37 (by decide) ?_
      refine x_icmp_gt (tgt := 46) C d_To_isToken_39 rfl (fun q39 => ?_) (fun q39 => ?_)
      · skip
        refine x_iconst (v := 0) C d_To_isToken_46 (by decide) ?_
        refine x_zret C d_To_isToken_47 (by rfl) ?_
        exact ⟨rfl, by simp [bI, tokOK, *]⟩
      · skip
        refine x_iconst (v := 1) C d_To_isToken_42 (by decide) ?_
        refine x_goto (tgt := 47) C d_To_isToken_43 rfl ?_
        refine x_zret C d_To_isToken_47 (by rfl) ?_
        exact ⟨rfl, by simp [bI, tokOK, *]⟩
  · skip
    refine x_tabIn (tgt := 48) C d_To_isToken_1 (by decide) (by decide) (by rfl) rfl ?_
    refine x_iload_n C d_To_isToken_48 rfl rfl ?_
    refine x_if_lt (tgt := 62) C d_To_isToken_49 rfl (fun q49 => ?_) (fun q49 => ?_)
    · skip
      refine x_iconst (v := 0) C d_To_isToken_62 (by decide) ?_
      refine x_zret C d_To_isToken_63 (by rfl) ?_
      exact ⟨rfl, by simp [bI, tokOK, *]⟩
    · skip
      refine x_iload_n C d_To_isToken_52 rfl rfl ?_
      refine x_bipush (v := 10) C d_To_isToken_53 (by decide) ?_
      refine x_icmp_ge (tgt := 62) C d_To_isToken_55 rfl (fun q55 => ?_) (fun q55 => ?_)
      · skip
        refine x_iconst (v := 0) C d_To_isToken_62 (by decide) ?_
        refine x_zret C d_To_isToken_63 (by rfl) ?_
        exact ⟨rfl, by simp [bI, tokOK, *]⟩
      · skip
        refine x_iconst (v := 1) C d_To_isToken_58 (by decide) ?_
        refine x_goto (tgt := 63) C d_To_isToken_59 rfl ?_
        refine x_zret C d_To_isToken_63 (by rfl) ?_
        exact ⟨rfl, by simp [bI, tokOK, *]⟩
  · skip
    refine x_tabIn (tgt := 64) C d_To_isToken_1 (by decide) (by decide) (by rfl) rfl ?_
    refine x_iconst (v := 0) C d_To_isToken_64 (by decide) ?_
    refine x_iload_n C d_To_isToken_65 rfl rfl ?_
    refine x_callS C l_To_18 v_To_isColumnFrom d_To_isToken_66 (m_To_isColumnFrom 0 n) (by rfl) (by rfl) (by decide) (by decide) (Nat.le_of_ble_eq_true rfl) ?_
    rintro v h' ⟨rfl, rfl⟩
    refine x_if_ne (tgt := 81) C d_To_isToken_69 rfl (fun q69 => ?_) (fun q69 => ?_)
    · skip
      replace q69 := bI_t q69
      refine x_iconst (v := 1) C d_To_isToken_81 (by decide) ?_
      refine x_goto (tgt := 86) C d_To_isToken_82 rfl ?_
      refine x_zret C d_To_isToken_86 (by rfl) ?_
      exact ⟨rfl, by simp [bI, tokOK, *]⟩
    · skip
      replace q69 := bI_f q69
      refine x_bipush (v := 10) C d_To_isToken_72 (by decide) ?_
      refine x_iload_n C d_To_isToken_74 rfl rfl ?_
      refine x_callS C l_To_18 v_To_isColumnFrom d_To_isToken_75 (m_To_isColumnFrom 10 n) (by rfl) (by rfl) (by decide) (by decide) (Nat.le_of_ble_eq_true rfl) ?_
      rintro v h' ⟨rfl, rfl⟩
      refine x_if_eq (tgt := 85) C d_To_isToken_78 rfl (fun q78 => ?_) (fun q78 => ?_)
      · skip
        replace q78 := bI_f q78
        refine x_iconst (v := 0) C d_To_isToken_85 (by decide) ?_
        refine x_zret C d_To_isToken_86 (by rfl) ?_
        exact ⟨rfl, by simp [bI, tokOK, *]⟩
      · skip
        replace q78 := bI_t q78
        refine x_iconst (v := 1) C d_To_isToken_81 (by decide) ?_
        refine x_goto (tgt := 86) C d_To_isToken_82 rfl ?_
        refine x_zret C d_To_isToken_86 (by rfl) ?_
        exact ⟨rfl, by simp [bI, tokOK, *]⟩
  · skip
    refine x_tabIn (tgt := 87) C d_To_isToken_1 (by decide) (by decide) (by rfl) rfl ?_
    refine x_iconst (v := 1) C d_To_isToken_87 (by decide) ?_
    refine x_zret C d_To_isToken_88 (by rfl) ?_
    exact ⟨rfl, by simp [bI, tokOK, *]⟩
  · skip
    refine x_tabOut (tgt := 89) C d_To_isToken_1 q1 rfl ?_
    refine x_iconst (v := 0) C d_To_isToken_89 (by decide) ?_
    refine x_zret C d_To_isToken_90 (by rfl) ?_
    refine ⟨rfl, ?_⟩
    have z0 : ¬ k = 0 := fun z => by rw [z] at q1; revert q1; decide
    have z1 : ¬ k = 1 := fun z => by rw [z] at q1; revert q1; decide
    have z2 : ¬ k = 2 := fun z => by rw [z] at q1; revert q1; decide
    have z3 : ¬ k = 3 := fun z => by rw [z] at q1; revert q1; decide
    simp [bI, tokOK, z0, z1, z2, z3]
