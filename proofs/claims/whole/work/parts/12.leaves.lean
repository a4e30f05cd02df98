/-! CursorBase$Operand, CursorBase$Condition -/
set_option maxRecDepth 20000 in
set_option maxHeartbeats 1000000 in
theorem m_Op_isThere {V : xV} {h : xH} {O : Nat} {k n : Int32} (fO : h O = some (oOp k n)) (fc sc : Int32) : xM V y_Op_isThere b_Op_isThere 3 (some .boolean) 0 [.ref O, .int fc, .int sc] h 0 0 (fun v h' => h' = h ∧ v = some (.int (bI (opThere k n fc sc)))) := by
  refine xM_of false (by decide) (fun h => nomatch h) (Nat.le_of_ble_eq_true rfl) (fun K C => ?_)
  show K 0 0 h 0 [(0, .ref O), (1, .int fc), (2, .int sc)] []
  refine x_aload_n C d_Op_isThere_0 rfl rfl ?_
  refine x_get C k_Op f_Op_9 d_Op_isThere_1 fO (by rfl) ?_
  refine x_iconst (v := 3) C d_Op_isThere_4 (by decide) ?_
  refine x_icmp_ne (tgt := 10) C d_Op_isThere_5 rfl (fun q5 => ?_) (fun q5 => ?_)
  · skip
    refine x_aload_n C d_Op_isThere_10 rfl rfl ?_
    refine x_get C k_Op f_Op_15 d_Op_isThere_11 fO (by rfl) ?_
    refine x_bipush (v := 10) C d_Op_isThere_14 (by decide) ?_
    refine x_icmp_ge (tgt := 35) C d_Op_isThere_16 rfl (fun q16 => ?_) (fun q16 => ?_)
    · skip
      refine x_aload_n C d_Op_isThere_35 rfl rfl ?_
      refine x_get C k_Op f_Op_15 d_Op_isThere_36 fO (by rfl) ?_
      refine x_bipush (v := 10) C d_Op_isThere_39 (by decide) ?_
      refine x_isub C d_Op_isThere_41 ?_
      refine x_iload_n C d_Op_isThere_42 rfl rfl ?_
      refine x_icmp_ge (tgt := 50) C d_Op_isThere_43 rfl (fun q43 => ?_) (fun q43 => ?_)
      · skip
        refine x_iconst (v := 0) C d_Op_isThere_50 (by decide) ?_
        refine x_zret C d_Op_isThere_51 (by rfl) ?_
        exact ⟨rfl, by simp [bI, opThere, *]⟩
      · skip
        refine x_iconst (v := 1) C d_Op_isThere_46 (by decide) ?_
        refine x_goto (tgt := 51) C d_Op_isThere_47 rfl ?_
        refine x_zret C d_Op_isThere_51 (by rfl) ?_
        exact ⟨rfl, by simp [bI, opThere, *]⟩
    · skip
      refine x_aload_n C d_Op_isThere_19 rfl rfl ?_
      refine x_get C k_Op f_Op_15 d_Op_isThere_20 fO (by rfl) ?_
      refine x_iload_n C d_Op_isThere_23 rfl rfl ?_
      refine x_icmp_ge (tgt := 31) C d_Op_isThere_24 rfl (fun q24 => ?_) (fun q24 => ?_)
      · skip
        refine x_iconst (v := 0) C d_Op_isThere_31 (by decide) ?_
        refine x_goto (tgt := 51) C d_Op_isThere_32 rfl ?_
        refine x_zret C d_Op_isThere_51 (by rfl) ?_
        exact ⟨rfl, by simp [bI, opThere, *]⟩
      · skip
        refine x_iconst (v := 1) C d_Op_isThere_27 (by decide) ?_
        refine x_goto (tgt := 51) C d_Op_isThere_28 rfl ?_
        refine x_zret C d_Op_isThere_51 (by rfl) ?_
        exact ⟨rfl, by simp [bI, opThere, *]⟩
  · skip
    refine x_iconst (v := 1) C d_Op_isThere_8 (by decide) ?_
    refine x_zret C d_Op_isThere_9 (by rfl) ?_
    exact ⟨rfl, by simp [bI, opThere, *]⟩
set_option maxRecDepth 20000 in
set_option maxHeartbeats 1000000 in
theorem m_Op_value {V : xV} {h : xH} {O : Nat} {k n : Int32} (fO : h O = some (oOp k n)) {r : Nat} {f : Nat → Int32} (fr : h r = some (xI V 16 f)) (hin : k = 3 ∨ vp_in n 16) : xM V y_Op_value b_Op_value 2 (some .int) 0 [.ref O, .ref r] h 0 0 (fun v h' => h' = h ∧ v = some (.int (opVal k n f))) := by
  refine xM_of false (by decide) (fun h => nomatch h) (Nat.le_of_ble_eq_true rfl) (fun K C => ?_)
  show K 0 0 h 0 [(0, .ref O), (1, .ref r)] []
  refine x_aload_n C d_Op_value_0 rfl rfl ?_
  refine x_get C k_Op f_Op_9 d_Op_value_1 fO (by rfl) ?_
  refine x_iconst (v := 3) C d_Op_value_4 (by decide) ?_
  refine x_icmp_ne (tgt := 15) C d_Op_value_5 rfl (fun q5 => ?_) (fun q5 => ?_)
  · skip
    refine x_aload_n C d_Op_value_15 rfl rfl ?_
    refine x_aload_n C d_Op_value_16 rfl rfl ?_
    refine x_get C k_Op f_Op_15 d_Op_value_17 fO (by rfl) ?_
    refine x_iald C d_Op_value_20 fr (hin.resolve_left q5) ?_
    refine x_iret C d_Op_value_21 ?_
    exact ⟨rfl, by simp [opVal, *]⟩
  · skip
    refine x_aload_n C d_Op_value_8 rfl rfl ?_
    refine x_get C k_Op f_Op_15 d_Op_value_9 fO (by rfl) ?_
    refine x_goto (tgt := 21) C d_Op_value_12 rfl ?_
    refine x_iret C d_Op_value_21 ?_
    exact ⟨rfl, by simp [opVal, *]⟩
set_option maxRecDepth 20000 in
set_option maxHeartbeats 1000000 in
theorem m_Op_init {V : xV} {h : xH} {O : Nat} (fO : h O = some (.inr (0, [.int 0, .int 0]))) (k n : Int32) : xM V y_Op_init b_Op_init 3 none 1 [.ref O, .int k, .int n] h 0 0 (fun v h' => v = none ∧ h' O = some (oOp k n) ∧ xKeep [O] h h') := by
  refine xM_of true (by decide) (fun _ => rfl) (Nat.le_of_ble_eq_true rfl) (fun K C => ?_)
  show K 0 0 h 0 [(0, .ref O), (1, .int k), (2, .int n)] []
  have kp : xKeep [O] h h := xKeep.rf
  refine x_aload_n C d_Op_init_0 rfl rfl ?_
  refine x_objInit C ⟨l_Op_3, oi_i, oi_c⟩ (by decide) (Nat.le_of_ble_eq_true rfl) d_Op_init_1 ?_
  refine x_aload_n C d_Op_init_4 rfl rfl ?_
  refine x_iload_n C d_Op_init_5 rfl rfl ?_
  refine x_putF (fs' := [_, _]) C k_Op g_Op_9 d_Op_init_6 fO (by rfl) (by rfl) (by rfl) (Nat.le_of_ble_eq_true rfl) (by rfl) (fun h1 u1 => ?_)
  have fO := xUp_at u1
  have kp := kp.up u1 (by simp)
  refine x_aload_n C d_Op_init_9 rfl rfl ?_
  refine x_iload_n C d_Op_init_10 rfl rfl ?_
  refine x_putF (fs' := [_, _]) C k_Op g_Op_15 d_Op_init_11 fO (by rfl) (by rfl) (by rfl) (Nat.le_of_ble_eq_true rfl) (by rfl) (fun h2 u2 => ?_)
  have fO := xUp_at u2
  have kp := kp.up u2 (by simp)
  refine x_vret C d_Op_init_14 ?_
  exact ⟨rfl, fO, kp⟩
set_option maxRecDepth 20000 in
set_option maxHeartbeats 1000000 in
theorem m_Cn_init {V : xV} {h : xH} {O : Nat} (fO : h O = some (.inr (1, [.null, .int 0, .null]))) (a : Nat) (k : Int32) (b : Nat) : xM V y_Cn_init b_Cn_init 4 none 1 [.ref O, .ref a, .int k, .ref b] h 0 0 (fun v h' => v = none ∧ h' O = some (oCn a k b) ∧ xKeep [O] h h') := by
  refine xM_of true (by decide) (fun _ => rfl) (Nat.le_of_ble_eq_true rfl) (fun K C => ?_)
  show K 0 0 h 0 [(0, .ref O), (1, .ref a), (2, .int k), (3, .ref b)] []
  have kp : xKeep [O] h h := xKeep.rf
  refine x_aload_n C d_Cn_init_0 rfl rfl ?_
  refine x_objInit C ⟨l_Cn_3, oi_i, oi_c⟩ (by decide) (Nat.le_of_ble_eq_true rfl) d_Cn_init_1 ?_
  refine x_aload_n C d_Cn_init_4 rfl rfl ?_
  refine x_aload_n C d_Cn_init_5 rfl rfl ?_
  refine x_putF (fs' := [_, _, _]) C k_Cn g_Cn_9 d_Cn_init_6 fO (by rfl) (by rfl) (by rfl) (Nat.le_of_ble_eq_true rfl) (by rfl) (fun h1 u1 => ?_)
  have fO := xUp_at u1
  have kp := kp.up u1 (by simp)
  refine x_aload_n C d_Cn_init_9 rfl rfl ?_
  refine x_iload_n C d_Cn_init_10 rfl rfl ?_
  refine x_putF (fs' := [_, _, _]) C k_Cn g_Cn_15 d_Cn_init_11 fO (by rfl) (by rfl) (by rfl) (Nat.le_of_ble_eq_true rfl) (by rfl) (fun h2 u2 => ?_)
  have fO := xUp_at u2
  have kp := kp.up u2 (by simp)
  refine x_aload_n C d_Cn_init_14 rfl rfl ?_
  refine x_aload_n C d_Cn_init_15 rfl rfl ?_
  refine x_putF (fs' := [_, _, _]) C k_Cn g_Cn_19 d_Cn_init_16 fO (by rfl) (by rfl) (by rfl) (Nat.le_of_ble_eq_true rfl) (by rfl) (fun h3 u3 => ?_)
  have fO := xUp_at u3
  have kp := kp.up u3 (by simp)
  refine x_vret C d_Cn_init_19 ?_
  exact ⟨rfl, fO, kp⟩
set_option maxRecDepth 20000 in
set_option maxHeartbeats 1000000 in
theorem m_Cn_isThere {V : xV} {h : xH} {Q a b : Nat} {k1 n1 c k2 n2 : Int32} (fQ : h Q = some (oCn a c b)) (fa : h a = some (oOp k1 n1)) (fb : h b = some (oOp k2 n2)) (fc sc : Int32) : xM V y_Cn_isThere b_Cn_isThere 3 (some .boolean) 1 [.ref Q, .int fc, .int sc] h 0 0 (fun v h' => h' = h ∧ v = some (.int (bI (opThere k1 n1 fc sc && opThere k2 n2 fc sc)))) := by
  refine xM_of false (by decide) (fun h => nomatch h) (Nat.le_of_ble_eq_true rfl) (fun K C => ?_)
  show K 0 0 h 0 [(0, .ref Q), (1, .int fc), (2, .int sc)] []
  refine x_aload_n C d_Cn_isThere_0 rfl rfl ?_
  refine x_get C k_Cn f_Cn_9 d_Cn_isThere_1 fQ (by rfl) ?_
  refine x_iload_n C d_Cn_isThere_4 rfl rfl ?_
  refine x_iload_n C d_Cn_isThere_5 rfl rfl ?_
  refine x_callV C l_Cn_22 v_Op_isThere d_Cn_isThere_6 (m_Op_isThere fa fc sc) fa rfl (by rfl) (by rfl) (by decide) (by decide) (Nat.le_of_ble_eq_true rfl) ?_
  rintro v h' ⟨rfl, rfl⟩
  refine x_if_eq (tgt := 28) C d_Cn_isThere_9 rfl (fun q9 => ?_) (fun q9 => ?_)
  · skip
    replace q9 := bI_f q9
    refine x_iconst (v := 0) C d_Cn_isThere_28 (by decide) ?_
    refine x_zret C d_Cn_isThere_29 (by rfl) ?_
    exact ⟨rfl, by simp [bI, *]⟩
  · skip
    replace q9 := bI_t q9
    refine x_aload_n C d_Cn_isThere_12 rfl rfl ?_
    refine x_get C k_Cn f_Cn_19 d_Cn_isThere_13 fQ (by rfl) ?_
    refine x_iload_n C d_Cn_isThere_16 rfl rfl ?_
    refine x_iload_n C d_Cn_isThere_17 rfl rfl ?_
    refine x_callV C l_Cn_22 v_Op_isThere d_Cn_isThere_18 (m_Op_isThere fb fc sc) fb rfl (by rfl) (by rfl) (by decide) (by decide) (Nat.le_of_ble_eq_true rfl) ?_
    rintro v h' ⟨rfl, rfl⟩
    refine x_if_eq (tgt := 28) C d_Cn_isThere_21 rfl (fun q21 => ?_) (fun q21 => ?_)
    · skip
      replace q21 := bI_f q21
      refine x_iconst (v := 0) C d_Cn_isThere_28 (by decide) ?_
      refine x_zret C d_Cn_isThere_29 (by rfl) ?_
      exact ⟨rfl, by simp [bI, *]⟩
    · skip
      replace q21 := bI_t q21
      refine x_iconst (v := 1) C d_Cn_isThere_24 (by decide) ?_
      refine x_goto (tgt := 29) C d_Cn_isThere_25 rfl ?_
      refine x_zret C d_Cn_isThere_29 (by rfl) ?_
      exact ⟨rfl, by simp [bI, *]⟩
set_option maxRecDepth 20000 in
set_option maxHeartbeats 1000000 in
theorem m_Cn_holds {V : xV} {h : xH} {Q a b : Nat} {k1 n1 c k2 n2 : Int32} (fQ : h Q = some (oCn a c b)) (fa : h a = some (oOp k1 n1)) (fb : h b = some (oOp k2 n2)) {r : Nat} {f : Nat → Int32} (fr : h r = some (xI V 16 f)) (h1 : k1 = 3 ∨ vp_in n1 16) (h2 : k2 = 3 ∨ vp_in n2 16) : xM V y_Cn_holds b_Cn_holds 4 (some .boolean) 1 [.ref Q, .ref r] h 0 0 (fun v h' => h' = h ∧ v = some (.int (bI (cmp c (opVal k1 n1 f) (opVal k2 n2 f))))) := by
  refine xM_of false (by decide) (fun h => nomatch h) (Nat.le_of_ble_eq_true rfl) (fun K C => ?_)
  show K 0 0 h 0 [(0, .ref Q), (1, .ref r)] []
  refine x_aload_n C d_Cn_holds_0 rfl rfl ?_
  refine x_get C k_Cn f_Cn_9 d_Cn_holds_1 fQ (by rfl) ?_
  refine x_aload_n C d_Cn_holds_4 rfl rfl ?_
  refine x_callV C l_Cn_28 v_Op_value d_Cn_holds_5 (m_Op_value fa fr h1) fa rfl (by rfl) (by rfl) (by decide) (by decide) (Nat.le_of_ble_eq_true rfl) ?_
  rintro v h' ⟨rfl, rfl⟩
  refine x_istore_n (lv' := [(2, _), (0, _), (1, _)]) C d_Cn_holds_8 rfl (by decide) (by rfl) ?_
  refine x_aload_n C d_Cn_holds_9 rfl rfl ?_
  refine x_get C k_Cn f_Cn_19 d_Cn_holds_10 fQ (by rfl) ?_
  refine x_aload_n C d_Cn_holds_13 rfl rfl ?_
  refine x_callV C l_Cn_28 v_Op_value d_Cn_holds_14 (m_Op_value fb fr h2) fb rfl (by rfl) (by rfl) (by decide) (by decide) (Nat.le_of_ble_eq_true rfl) ?_
  rintro v h' ⟨rfl, rfl⟩
  refine x_istore_n (lv' := [(3, _), (2, _), (0, _), (1, _)]) C d_Cn_holds_17 rfl (by decide) (by rfl) ?_
  refine x_aload_n C d_Cn_holds_18 rfl rfl ?_
  refine x_get C k_Cn f_Cn_15 d_Cn_holds_19 fQ (by rfl) ?_
  by_cases q22_10 : c = 10
  · subst q22_10
    refine x_look (off := 26) (tgt := 48) C d_Cn_holds_22 (by decide) (by decide) rfl ?_
    refine x_iload_n C d_Cn_holds_48 rfl rfl ?_
    refine x_iload_n C d_Cn_holds_49 rfl rfl ?_
    refine x_icmp_ne (tgt := 57) C d_Cn_holds_50 rfl (fun q50 => ?_) (fun q50 => ?_)
    · skip
      refine x_iconst (v := 0) C d_Cn_holds_57 (by decide) ?_
      refine x_zret C d_Cn_holds_58 (by rfl) ?_
      exact ⟨rfl, by simp [bI, cmp, *]⟩
    · skip
      refine x_iconst (v := 1) C d_Cn_holds_53 (by decide) ?_
      refine x_goto (tgt := 58) C d_Cn_holds_54 rfl ?_
      refine x_zret C d_Cn_holds_58 (by rfl) ?_
      exact ⟨rfl, by simp [bI, cmp, *]⟩
  by_cases q22_11 : c = 11
  · subst q22_11
    refine x_look (off := 37) (tgt := 59) C d_Cn_holds_22 (by decide) (by decide) rfl ?_
    refine x_iload_n C d_Cn_holds_59 rfl rfl ?_
    refine x_iload_n C d_Cn_holds_60 rfl rfl ?_
    refine x_icmp_ge (tgt := 68) C d_Cn_holds_61 rfl (fun q61 => ?_) (fun q61 => ?_)
    · skip
      refine x_iconst (v := 0) C d_Cn_holds_68 (by decide) ?_
      refine x_zret C d_Cn_holds_69 (by rfl) ?_
      exact ⟨rfl, by simp [bI, cmp, *]⟩
    · skip
      refine x_iconst (v := 1) C d_Cn_holds_64 (by decide) ?_
      refine x_goto (tgt := 69) C d_Cn_holds_65 rfl ?_
      refine x_zret C d_Cn_holds_69 (by rfl) ?_
      exact ⟨rfl, by simp [bI, cmp, *]⟩
  refine x_look (tgt := 70) C d_Cn_holds_22 (by decide) (look2 q22_10 q22_11) rfl ?_
  refine x_iload_n C d_Cn_holds_70 rfl rfl ?_
  refine x_iload_n C d_Cn_holds_71 rfl rfl ?_
  refine x_icmp_le (tgt := 79) C d_Cn_holds_72 rfl (fun q72 => ?_) (fun q72 => ?_)
  · skip
    refine x_iconst (v := 0) C d_Cn_holds_79 (by decide) ?_
    refine x_zret C d_Cn_holds_80 (by rfl) ?_
    exact ⟨rfl, by simp [bI, cmp, *]⟩
  · skip
    refine x_iconst (v := 1) C d_Cn_holds_75 (by decide) ?_
    refine x_goto (tgt := 80) C d_Cn_holds_76 rfl ?_
    refine x_zret C d_Cn_holds_80 (by rfl) ?_
    exact ⟨rfl, by simp [bI, cmp, *]⟩
