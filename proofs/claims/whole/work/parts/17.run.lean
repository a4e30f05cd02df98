/-! CursorBase$Run -/
set_option maxRecDepth 20000 in
set_option maxHeartbeats 1000000 in
theorem m_Ru_begin {V : xV} {h : xH} {U rd : Nat} {gv on en fp sp : Int32} {tt : Int64} {st : Value} (fU : h U = some (oRu st gv on en fp sp tt rd)) (a : Nat) : xM V y_Ru_begin b_Ru_begin 2 none 0 [.ref U, .ref a] h 0 0 (fun v h' => v = none ∧ h' U = some (oRu (.ref a) 0 0 0 0 0 tt rd) ∧ xKeep [U] h h') := by
  refine xM_of false (by decide) (fun h => nomatch h) (Nat.le_of_ble_eq_true rfl) (fun K C => ?_)
  show K 0 0 h 0 [(0, .ref U), (1, .ref a)] []
  have kp : xKeep [U] h h := xKeep.rf
  refine x_aload_n C d_Ru_begin_0 rfl rfl ?_
  refine x_aload_n C d_Ru_begin_1 rfl rfl ?_
  refine x_put (fs' := [_, _, _, _, _, _, _, _]) C k_Ru f_Ru_15 d_Ru_begin_2 fU (by rfl) (by rfl) (by rfl) (Nat.le_of_ble_eq_true rfl) (by rfl) (fun h1 u1 => ?_)
  have fU := xUp_at u1
  have kp := kp.up u1 (by simp)
  refine x_aload_n C d_Ru_begin_5 rfl rfl ?_
  refine x_iconst (v := 0) C d_Ru_begin_6 (by decide) ?_
  refine x_put (fs' := [_, _, _, _, _, _, _, _]) C k_Ru f_Ru_19 d_Ru_begin_7 fU (by rfl) (by rfl) (by rfl) (Nat.le_of_ble_eq_true rfl) (by rfl) (fun h2 u2 => ?_)
  have fU := xUp_at u2
  have kp := kp.up u2 (by simp)
  refine x_aload_n C d_Ru_begin_10 rfl rfl ?_
  refine x_iconst (v := 0) C d_Ru_begin_11 (by decide) ?_
  refine x_put (fs' := [_, _, _, _, _, _, _, _]) C k_Ru f_Ru_23 d_Ru_begin_12 fU (by rfl) (by rfl) (by rfl) (Nat.le_of_ble_eq_true rfl) (by rfl) (fun h3 u3 => ?_)
  have fU := xUp_at u3
  have kp := kp.up u3 (by simp)
  refine x_aload_n C d_Ru_begin_15 rfl rfl ?_
  refine x_iconst (v := 0) C d_Ru_begin_16 (by decide) ?_
  refine x_put (fs' := [_, _, _, _, _, _, _, _]) C k_Ru f_Ru_27 d_Ru_begin_17 fU (by rfl) (by rfl) (by rfl) (Nat.le_of_ble_eq_true rfl) (by rfl) (fun h4 u4 => ?_)
  have fU := xUp_at u4
  have kp := kp.up u4 (by simp)
  refine x_aload_n C d_Ru_begin_20 rfl rfl ?_
  refine x_iconst (v := 0) C d_Ru_begin_21 (by decide) ?_
  refine x_put (fs' := [_, _, _, _, _, _, _, _]) C k_Ru f_Ru_30 d_Ru_begin_22 fU (by rfl) (by rfl) (by rfl) (Nat.le_of_ble_eq_true rfl) (by rfl) (fun h5 u5 => ?_)
  have fU := xUp_at u5
  have kp := kp.up u5 (by simp)
  refine x_aload_n C d_Ru_begin_25 rfl rfl ?_
  refine x_iconst (v := 0) C d_Ru_begin_26 (by decide) ?_
  refine x_put (fs' := [_, _, _, _, _, _, _, _]) C k_Ru f_Ru_33 d_Ru_begin_27 fU (by rfl) (by rfl) (by rfl) (Nat.le_of_ble_eq_true rfl) (by rfl) (fun h6 u6 => ?_)
  have fU := xUp_at u6
  have kp := kp.up u6 (by simp)
  refine x_vret C d_Ru_begin_30 ?_
  exact ⟨rfl, fU, kp⟩
set_option maxRecDepth 20000 in
set_option maxHeartbeats 1000000 in
theorem m_Ru_beginN {V : xV} {h : xH} {U rd : Nat} {gv on en fp sp : Int32} {tt : Int64} {st : Value} (fU : h U = some (oRu st gv on en fp sp tt rd)) : xM V y_Ru_begin b_Ru_begin 2 none 0 [.ref U, .null] h 0 0 (fun v h' => v = none ∧ h' U = some (oRu .null 0 0 0 0 0 tt rd) ∧ xKeep [U] h h') := by
  refine xM_of false (by decide) (fun h => nomatch h) (Nat.le_of_ble_eq_true rfl) (fun K C => ?_)
  show K 0 0 h 0 [(0, .ref U), (1, .null)] []
  have kp : xKeep [U] h h := xKeep.rf
  refine x_aload_n C d_Ru_begin_0 rfl rfl ?_
  refine x_aload_nN C d_Ru_begin_1 rfl rfl ?_
  refine x_put (fs' := [_, _, _, _, _, _, _, _]) C k_Ru f_Ru_15 d_Ru_begin_2 fU (by rfl) (by rfl) (by rfl) (Nat.le_of_ble_eq_true rfl) (by rfl) (fun h1 u1 => ?_)
  have fU := xUp_at u1
  have kp := kp.up u1 (by simp)
  refine x_aload_n C d_Ru_begin_5 rfl rfl ?_
  refine x_iconst (v := 0) C d_Ru_begin_6 (by decide) ?_
  refine x_put (fs' := [_, _, _, _, _, _, _, _]) C k_Ru f_Ru_19 d_Ru_begin_7 fU (by rfl) (by rfl) (by rfl) (Nat.le_of_ble_eq_true rfl) (by rfl) (fun h2 u2 => ?_)
  have fU := xUp_at u2
  have kp := kp.up u2 (by simp)
  refine x_aload_n C d_Ru_begin_10 rfl rfl ?_
  refine x_iconst (v := 0) C d_Ru_begin_11 (by decide) ?_
  refine x_put (fs' := [_, _, _, _, _, _, _, _]) C k_Ru f_Ru_23 d_Ru_begin_12 fU (by rfl) (by rfl) (by rfl) (Nat.le_of_ble_eq_true rfl) (by rfl) (fun h3 u3 => ?_)
  have fU := xUp_at u3
  have kp := kp.up u3 (by simp)
  refine x_aload_n C d_Ru_begin_15 rfl rfl ?_
  refine x_iconst (v := 0) C d_Ru_begin_16 (by decide) ?_
  refine x_put (fs' := [_, _, _, _, _, _, _, _]) C k_Ru f_Ru_27 d_Ru_begin_17 fU (by rfl) (by rfl) (by rfl) (Nat.le_of_ble_eq_true rfl) (by rfl) (fun h4 u4 => ?_)
  have fU := xUp_at u4
  have kp := kp.up u4 (by simp)
  refine x_aload_n C d_Ru_begin_20 rfl rfl ?_
  refine x_iconst (v := 0) C d_Ru_begin_21 (by decide) ?_
  refine x_put (fs' := [_, _, _, _, _, _, _, _]) C k_Ru f_Ru_30 d_Ru_begin_22 fU (by rfl) (by rfl) (by rfl) (Nat.le_of_ble_eq_true rfl) (by rfl) (fun h5 u5 => ?_)
  have fU := xUp_at u5
  have kp := kp.up u5 (by simp)
  refine x_aload_n C d_Ru_begin_25 rfl rfl ?_
  refine x_iconst (v := 0) C d_Ru_begin_26 (by decide) ?_
  refine x_put (fs' := [_, _, _, _, _, _, _, _]) C k_Ru f_Ru_33 d_Ru_begin_27 fU (by rfl) (by rfl) (by rfl) (Nat.le_of_ble_eq_true rfl) (by rfl) (fun h6 u6 => ?_)
  have fU := xUp_at u6
  have kp := kp.up u6 (by simp)
  refine x_vret C d_Ru_begin_30 ?_
  exact ⟨rfl, fU, kp⟩
set_option maxRecDepth 20000 in
set_option maxHeartbeats 1000000 in
theorem m_Ru_note {V : xV} {h : xH} {U rd : Nat} {gv on en fp sp : Int32} {tt : Int64} {st : Value} (fU : h U = some (oRu st gv on en fp sp tt rd)) (an : Int32) : xM V y_Ru_note b_Ru_note 2 none 0 [.ref U, .int an] h 0 0 (fun v h' => v = none ∧ h' U = some (oRu st (if an = 1 then gv + 1 else gv) (bI (decide (an = 1))) (bI (!decide (an = 1))) fp sp tt rd) ∧ xKeep [U] h h') := by
  refine xM_of false (by decide) (fun h => nomatch h) (Nat.le_of_ble_eq_true rfl) (fun K C => ?_)
  show K 0 0 h 0 [(0, .ref U), (1, .int an)] []
  have kp : xKeep [U] h h := xKeep.rf
  refine x_aload_n C d_Ru_note_0 rfl rfl ?_
  refine x_iload_n C d_Ru_note_1 rfl rfl ?_
  refine x_iconst (v := 1) C d_Ru_note_2 (by decide) ?_
  refine x_icmp_ne (tgt := 10) C d_Ru_note_3 rfl (fun q3 => ?_) (fun q3 => ?_)
  · skip
    refine x_iconst (v := 0) C d_Ru_note_10 (by decide) ?_
    refine x_put (fs' := [_, _, _, _, _, _, _, _]) C k_Ru f_Ru_23 d_Ru_note_11 fU (by rfl) (by rfl) (by rfl) (Nat.le_of_ble_eq_true rfl) (by rfl) (fun h1 u1 => ?_)
    have fU := xUp_at u1
    have kp := kp.up u1 (by simp)
    refine x_aload_n C d_Ru_note_14 rfl rfl ?_
    refine x_aload_n C d_Ru_note_15 rfl rfl ?_
    refine x_get C k_Ru f_Ru_23 d_Ru_note_16 fU (by rfl) ?_
    refine x_if_ne (tgt := 26) C d_Ru_note_19 rfl (fun q19 => ?_) (fun q19 => ?_)
    · skip
      exact absurd q19 (by decide)
    · skip
      refine x_iconst (v := 1) C d_Ru_note_22 (by decide) ?_
      refine x_goto (tgt := 27) C d_Ru_note_23 rfl ?_
      refine x_put (fs' := [_, _, _, _, _, _, _, _]) C k_Ru f_Ru_27 d_Ru_note_27 fU (by rfl) (by rfl) (by rfl) (Nat.le_of_ble_eq_true rfl) (by rfl) (fun h2 u2 => ?_)
      have fU := xUp_at u2
      have kp := kp.up u2 (by simp)
      refine x_aload_n C d_Ru_note_30 rfl rfl ?_
      refine x_get C k_Ru f_Ru_23 d_Ru_note_31 fU (by rfl) ?_
      refine x_if_eq (tgt := 47) C d_Ru_note_34 rfl (fun q34 => ?_) (fun q34 => ?_)
      · skip
        refine x_vret C d_Ru_note_47 ?_
        first | exact absurd q19 (by decide) | exact absurd rfl q19 | exact absurd q34 (by decide) | exact absurd rfl q34 | (refine ⟨rfl, ?_, kp⟩; rw [fU]; first | (rw [if_pos q3, decide_eq_true q3]; rfl) | (rw [if_neg q3, decide_eq_false q3]; rfl))
      · skip
        exact absurd q34 (by decide)
  · skip
    refine x_iconst (v := 1) C d_Ru_note_6 (by decide) ?_
    refine x_goto (tgt := 11) C d_Ru_note_7 rfl ?_
    refine x_put (fs' := [_, _, _, _, _, _, _, _]) C k_Ru f_Ru_23 d_Ru_note_11 fU (by rfl) (by rfl) (by rfl) (Nat.le_of_ble_eq_true rfl) (by rfl) (fun h3 u3 => ?_)
    have fU := xUp_at u3
    have kp := kp.up u3 (by simp)
    refine x_aload_n C d_Ru_note_14 rfl rfl ?_
    refine x_aload_n C d_Ru_note_15 rfl rfl ?_
    refine x_get C k_Ru f_Ru_23 d_Ru_note_16 fU (by rfl) ?_
    refine x_if_ne (tgt := 26) C d_Ru_note_19 rfl (fun q19 => ?_) (fun q19 => ?_)
    · skip
      refine x_iconst (v := 0) C d_Ru_note_26 (by decide) ?_
      refine x_put (fs' := [_, _, _, _, _, _, _, _]) C k_Ru f_Ru_27 d_Ru_note_27 fU (by rfl) (by rfl) (by rfl) (Nat.le_of_ble_eq_true rfl) (by rfl) (fun h4 u4 => ?_)
      have fU := xUp_at u4
      have kp := kp.up u4 (by simp)
      refine x_aload_n C d_Ru_note_30 rfl rfl ?_
      refine x_get C k_Ru f_Ru_23 d_Ru_note_31 fU (by rfl) ?_
      refine x_if_eq (tgt := 47) C d_Ru_note_34 rfl (fun q34 => ?_) (fun q34 => ?_)
      · skip
        exact absurd q34 (by decide)
      · skip
        refine x_aload_n C d_Ru_note_37 rfl rfl ?_
        refine x_dup C d_Ru_note_38 rfl ?_
        refine x_get C k_Ru f_Ru_19 d_Ru_note_39 fU (by rfl) ?_
        refine x_iconst (v := 1) C d_Ru_note_42 (by decide) ?_
        refine x_iadd C d_Ru_note_43 ?_
        refine x_put (fs' := [_, _, _, _, _, _, _, _]) C k_Ru f_Ru_19 d_Ru_note_44 fU (by rfl) (by rfl) (by rfl) (Nat.le_of_ble_eq_true rfl) (by rfl) (fun h5 u5 => ?_)
        have fU := xUp_at u5
        have kp := kp.up u5 (by simp)
        refine x_vret C d_Ru_note_47 ?_
        first | exact absurd q19 (by decide) | exact absurd rfl q19 | exact absurd q34 (by decide) | exact absurd rfl q34 | (refine ⟨rfl, ?_, kp⟩; rw [fU]; first | (rw [if_pos q3, decide_eq_true q3]; rfl) | (rw [if_neg q3, decide_eq_false q3]; rfl))
    · skip
      exact absurd q19 (by decide)
set_option maxRecDepth 20000 in
set_option maxHeartbeats 1000000 in
theorem m_Ru_init {V : xV} {h : xH} {U : Nat} (fU : h U = some (.inr (3, [.null, .int 0, .int 0, .int 0, .int 0, .int 0, .long 0, .null]))) : xM V y_Ru_init b_Ru_init 1 none 1 [.ref U] h 1 16 (fun v h' => v = none ∧ ∃ rd, h' U = some (oRu .null 0 0 0 0 0 0 rd) ∧ h' rd = some (xI V 16 (fun _ => 0)) ∧ h rd = none ∧ xKeep [U] h h') := by
  refine xM_of true (by decide) (fun _ => rfl) (Nat.le_of_ble_eq_true rfl) (fun K C => ?_)
  show K 1 16 h 0 [(0, .ref U)] []
  have kp : xKeep [U] h h := xKeep.rf
  refine x_aload_n C d_Ru_init_0 rfl rfl ?_
  refine x_objInit C ⟨l_Ru_3, oi_i, oi_c⟩ (by decide) (Nat.le_of_ble_eq_true rfl) d_Ru_init_1 ?_
  refine x_aload_n C d_Ru_init_4 rfl rfl ?_
  refine x_bipush (v := 16) C d_Ru_init_5 (by decide) ?_
  refine x_newI (N := 16) C ac_int d_Ru_init_7 (by decide) (by decide) (by decide) (fun rd h1 n1 u1 => ?_)
  have x1_U := x_nn fU n1
  have fU := xUp_new u1 n1 fU
  have z_rd := kp.isn n1 (by simp only [List.mem_cons, List.not_mem_nil, or_false, not_or]; exact Ne.symm x1_U)
  have kp := kp.upN u1 z_rd
  have f_rd := xUp_at u1
  refine x_putF (fs' := [_, _, _, _, _, _, _, _]) C k_Ru g_Ru_9 d_Ru_init_9 fU (by rfl) (by rfl) (by rfl) (Nat.le_of_ble_eq_true rfl) (by rfl) (fun h2 u2 => ?_)
  have f_rd := xUp_ne u2 f_rd (by first | assumption | exact Ne.symm (by assumption) | exact x_ne f_rd fU (by simp))
  have fU := xUp_at u2
  have kp := kp.up u2 (by simp)
  refine x_vret C d_Ru_init_12 ?_
  exact ⟨rfl, rd, fU, f_rd, z_rd, kp⟩
set_option maxRecDepth 20000 in
set_option maxHeartbeats 1000000 in
theorem m_Ru_place {V : xV} {h : xH} {U rd : Nat} {gv on en fp sp : Int32} {tt : Int64} {S nb pk cd : Nat} {vb ls fi se fa nc np kc : Int32} (fS : h S = some (oSt vb ls fi se fa nc nb np pk kc cd)) (fU : h U = some (oRu (.ref S) gv on en fp sp tt rd)) {n i : Nat} (hi : i < n) : xM V y_Ru_place b_Ru_place 3 (some .int) 0 [.ref U, .int (nI i), .int (nI n)] h 0 0 (fun v h' => h' = h ∧ v = some (.int (nI (plc fa n i)))) := by
  refine xM_of false (by decide) (fun h => nomatch h) (Nat.le_of_ble_eq_true rfl) (fun K C => ?_)
  show K 0 0 h 0 [(0, .ref U), (1, .int (nI i)), (2, .int (nI n))] []
  refine x_aload_n C d_Ru_place_0 rfl rfl ?_
  refine x_get C k_Ru f_Ru_15 d_Ru_place_1 fU (by rfl) ?_
  refine x_get C k_St f_Ru_119 d_Ru_place_4 fS (by rfl) ?_
  refine x_if_eq (tgt := 18) C d_Ru_place_7 rfl (fun q7 => ?_) (fun q7 => ?_)
  · skip
    refine x_iload_n C d_Ru_place_18 rfl rfl ?_
    refine x_iret C d_Ru_place_19 ?_
    refine ⟨rfl, ?_⟩
    unfold plc
    first | (rw [if_pos q7]; done) | (rw [if_neg q7, show nI n - 1 = nI (n - 1) from pk_sub (b := 1) (by omega), pk_sub (by omega)]; done)
  · skip
    refine x_iload_n C d_Ru_place_10 rfl rfl ?_
    refine x_iconst (v := 1) C d_Ru_place_11 (by decide) ?_
    refine x_isub C d_Ru_place_12 ?_
    refine x_iload_n C d_Ru_place_13 rfl rfl ?_
    refine x_isub C d_Ru_place_14 ?_
    refine x_goto (tgt := 19) C d_Ru_place_15 rfl ?_
    refine x_iret C d_Ru_place_19 ?_
    refine ⟨rfl, ?_⟩
    unfold plc
    first | (rw [if_pos q7]; done) | (rw [if_neg q7, show nI n - 1 = nI (n - 1) from pk_sub (b := 1) (by omega), pk_sub (by omega)]; done)
