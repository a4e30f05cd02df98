/-! CursorBase$Run -/
set_option maxRecDepth 20000 in
set_option maxHeartbeats 1000000 in
theorem m_Ru_begin {V : xV} {h : xH} {U rd : Nat} {gv on en fp sp : Int32} {tt : Int64} {st : Value} (fU : h U = some (oRu st gv on en fp sp tt rd)) (a : Nat) : xM V y_Ru_begin b_Ru_begin 2 none 0 [.ref U, .ref a] h 0 0 (fun v h' => v = none ∧ h' U = some (oRu (.ref a) 0 0 0 0 0 tt rd) ∧ xKeep [U] h h') := by
  refine xM_of false (by decide) (fun h => nomatch h) (Nat.le_of_ble_eq_true rfl) (fun K C => ?_)
  show K 0 0 h 0 [(0, .ref U), (1, .ref a)] []
  have kp : xKeep [U] h h := xKeep.rf
  refine x_aload_n C d_Ru_begin_0 rfl rfl ?_
  refine x_aload_n C d_Ru_begin_1 rfl rfl ?_
  refine x_put (fs' := [_, _, _, _, _, _, _, _]) C k_Ru f_Ru_15 d_Ru_begin_2 fU (by rfl) (by rfl) (by rfl) (Nat.le_of_ble_eq_true rfl) (by rfl) (fun h1 u1 => ?_)
  have fU := xUp_at u1
  have kp := kp.up u1 (by simp)
  refine x_aload_n C d_Ru_begin_5 rfl rfl ?_
  refine x_iconst (v := 0) C d_Ru_begin_6 (by decide) ?_
  refine x_put (fs' := [_, _, _, _, _, _, _, _]) C k_Ru f_Ru_19 d_Ru_begin_7 fU (by rfl) (by rfl) (by rfl) (Nat.le_of_ble_eq_true rfl) (by rfl) (fun h2 u2 => ?_)
  have fU := xUp_at u2
  have kp := kp.up u2 (by simp)
  refine x_aload_n C d_Ru_begin_10 rfl rfl ?_
  refine x_iconst (v := 0) C d_Ru_begin_11 (by decide) ?_
  refine x_put (fs' := [_, _, _, _, _, _, _, _]) C k_Ru f_Ru_23 d_Ru_begin_12 fU (by rfl) (by rfl) (by rfl) (Nat.le_of_ble_eq_true rfl) (by rfl) (fun h3 u3 => ?_)
  have fU := xUp_at u3
  have kp := kp.up u3 (by simp)
  refine x_aload_n C d_Ru_begin_15 rfl rfl ?_
  refine x_iconst (v := 0) C d_Ru_begin_16 (by decide) ?_
  refine x_put (fs' := [_, _, _, _, _, _, _, _]) C k_Ru f_Ru_27 d_Ru_begin_17 fU (by rfl) (by rfl) (by rfl) (Nat.le_of_ble_eq_true rfl) (by rfl) (fun h4 u4 => ?_)
  have fU := xUp_at u4
  have kp := kp.up u4 (by simp)
  refine x_aload_n C d_Ru_begin_20 rfl rfl ?_
  refine x_iconst (v := 0) C d_Ru_begin_21 (by decide) ?_
  refine x_put (fs' := [_, _, _, _, _, _, _, _]) C k_Ru f_Ru_30 d_Ru_begin_22 fU (by rfl) (by rfl) (by rfl) (Nat.le_of_ble_eq_true rfl) (by rfl) (fun h5 u5 => ?_)
  have fU := xUp_at u5
  have kp := kp.up u5 (by simp)
  refine x_aload_n C d_Ru_begin_25 rfl rfl ?_
  refine x_iconst (v := 0) C d_Ru_begin_26 (by decide) ?_
  refine x_put (fs' := [_, _, _, _, _, _, _, _]) C k_Ru f_Ru_33 d_Ru_begin_27 fU (by rfl) (by rfl) (by rfl) (Nat.le_of_ble_eq_true rfl) (by rfl) (fun h6 u6 => ?_)
  have fU := xUp_at u6
  have kp := kp.up u6 (by simp)
  refine x_vret C d_Ru_begin_30 ?_
  exact ⟨rfl, fU, kp⟩
set_option maxRecDepth 20000 in
set_option maxHeartbeats 1000000 in
theorem m_Ru_beginN {V : xV} {h : xH} {U rd : Nat} {gv on en fp sp : Int32} {tt : Int64} {st : Value} (fU : h U = some (oRu st gv on en fp sp tt rd)) : xM V y_Ru_begin b_Ru_begin 2 none 0 [.ref U, .null] h 0 0 (fun v h' => v = none ∧ h' U = some (oRu .null 0 0 0 0 0 tt rd) ∧ xKeep [U] h h') := by
  refine xM_of false (by decide) (fun h => nomatch h) (Nat.le_of_ble_eq_true rfl) (fun K C => ?_)
  show K 0 0 h 0 [(0, .ref U), (1, .null)] []
  have kp : xKeep [U] h h := xKeep.rf
  refine x_aload_n C d_Ru_begin_0 rfl rfl ?_
  refine x_aload_nN C d_Ru_begin_1 rfl rfl ?_
  refine x_put (fs' := [_, _, _, _, _, _, _, _]) C k_Ru f_Ru_15 d_Ru_begin_2 fU (by rfl) (by rfl) (by rfl) (Nat.le_of_ble_eq_true rfl) (by rfl) (fun h1 u1 => ?_)
  have fU := xUp_at u1
  have kp := kp.up u1 (by simp)
  refine x_aload_n C d_Ru_begin_5 rfl rfl ?_
  refine x_iconst (v := 0) C d_Ru_begin_6 (by decide) ?_
  refine x_put (fs' := [_, _, _, _, _, _, _, _]) C k_Ru f_Ru_19 d_Ru_begin_7 fU (by rfl) (by rfl) (by rfl) (Nat.le_of_ble_eq_true rfl) (by rfl) (fun h2 u2 => ?_)
  have fU := xUp_at u2
  have kp := kp.up u2 (by simp)
  refine x_aload_n C d_Ru_begin_10 rfl rfl ?_
  refine x_iconst (v := 0) C d_Ru_begin_11 (by decide) ?_
  refine x_put (fs' := [_, _, _, _, _, _, _, _]) C k_Ru f_Ru_23 d_Ru_begin_12 fU (by rfl) (by rfl) (by rfl) (Nat.le_of_ble_eq_true rfl) (by rfl) (fun h3 u3 => ?_)
  have fU := xUp_at u3
  have kp := kp.up u3 (by simp)
  refine x_aload_n C d_Ru_begin_15 rfl rfl ?_
  refine x_iconst (v := 0) C d_Ru_begin_16 (by decide) ?_
  refine x_put (fs' := [_, _, _, _, _, _, _, _]) C k_Ru f_Ru_27 d_Ru_begin_17 fU (by rfl) (by rfl) (by rfl) (Nat.le_of_ble_eq_true rfl) (by rfl) (fun h4 u4 => ?_)
  have fU := xUp_at u4
  have kp := kp.up u4 (by simp)
  refine x_aload_n C d_Ru_begin_20 rfl rfl ?_
  refine x_iconst (v := 0) C d_Ru_begin_21 (by decide) ?_
  refine x_put (fs' := [_, _, _, _, _, _, _, _]) C k_Ru f_Ru_30 d_Ru_begin_22 fU (by rfl) (by rfl) (by rfl) (Nat.le_of_ble_eq_true rfl) (by rfl) (fun h5 u5 => ?_)
  have fU := xUp_at u5
  have kp := kp.up u5 (by simp)
  refine x_aload_n C d_Ru_begin_25 rfl rfl ?_
  refine x_iconst (v := 0) C d_Ru_begin_26 (by decide) ?_
  refine x_put (fs' := [_, _, _, _, _, _, _, _]) C k_Ru f_Ru_33 d_Ru_begin_27 fU (by rfl) (by rfl) (by rfl) (Nat.le_of_ble_eq_true rfl) (by rfl) (fun h6 u6 => ?_)
  have fU := xUp_at u6
  have kp := kp.up u6 (by simp)
  refine x_vret C d_Ru_begin_30 ?_
  exact ⟨rfl, fU, kp⟩
set_option maxRecDepth 20000 in
set_option maxHeartbeats 1000000 in
theorem m_Ru_note {V : xV} {h : xH} {U rd : Nat} {gv on en fp sp : Int32} {tt : Int64} {st : Value} (fU : h U = some (oRu st gv on en fp sp tt rd)) (an : Int32) : xM V y_Ru_note b_Ru_note 2 none 0 [.ref U, .int an] h 0 0 (fun v h' => v = none ∧ h' U = some (oRu st (if an = 1 then gv + 1 else gv) (bI (decide (an = 1))) (bI (!decide (an = 1))) fp sp tt rd) ∧ xKeep [U] h h') := by
  refine xM_of false (by decide) (fun h => nomatch h) (Nat.le_of_ble_eq_true rfl) (fun K C => ?_)
  show K 0 0 h 0 [(0, .ref U), (1, .int an)] []
  have kp : xKeep [U] h h := xKeep.rf
  refine x_aload_n C d_Ru_note_0 rfl rfl ?_
  refine x_iload_n C d_Ru_note_1 rfl rfl ?_
  refine x_iconst (v := 1) C d_Ru_note_2 (by decide) ?_
  refine x_icmp_ne (tgt := 10) C d_Ru_note_3 rfl (fun q3 => ?_) (fun q3 => ?_)
  · skip
    refine x_iconst (v := 0) C d_Ru_note_10 (by decide) ?_
    refine x_put (fs' := [_, _, _, _, _, _, _, _]) C k_Ru f_Ru_23 d_Ru_note_11 fU (by rfl) (by rfl) (by rfl) (Nat.le_of_ble_eq_true rfl) (by rfl) (fun h1 u1 => ?_)
    have fU := xUp_at u1
    have kp := kp.up u1 (by simp)
    refine x_aload_n C d_Ru_note_14 rfl rfl ?_
    refine x_aload_n C d_Ru_note_15 rfl rfl ?_
    refine x_get C k_Ru f_Ru_23 d_Ru_note_16 fU (by rfl) ?_
    refine x_if_ne (tgt := 26) C d_Ru_note_19 rfl (fun q19 => ?_) (fun q19 => ?_)
    · skip
      exact absurd q19 (by decide)
    · skip
      refine x_iconst (v := 1) C d_Ru_note_22 (by decide) ?_
      refine x_goto (tgt := 27) C d_Ru_note_23 rfl ?_
      refine x_put (fs' := [_, _, _, _, _, _, _, _]) C k_Ru f_Ru_27 d_Ru_note_27 fU (by rfl) (by rfl) (by rfl) (Nat.le_of_ble_eq_true rfl) (by rfl) (fun h2 u2 => ?_)
      have fU := xUp_at u2
      have kp := kp.up u2 (by simp)
      refine x_aload_n C d_Ru_note_30 rfl rfl ?_
      refine x_get C k_Ru f_Ru_23 d_Ru_note_31 fU (by rfl) ?_
      refine x_if_eq (tgt := 47) C d_Ru_note_34 rfl (fun q34 => ?_) (fun q34 => ?_)
      · skip
        refine x_vret C d_Ru_note_47 ?_
        first | exact absurd q19 (by decide) | exact absurd rfl q19 | exact absurd q34 (by decide) | exact absurd rfl q34 | (refine ⟨rfl, ?_, kp⟩; rw [fU]; first | (rw [if_pos q3, decide_eq_true q3]; rfl) | (rw [if_neg q3, decide_eq_false q3]; rfl))
      · skip
        exact absurd q34 (by decide)
  · skip
    refine x_iconst (v := 1) C d_Ru_note_6 (by decide) ?_
    refine x_goto (tgt := 11) C d_Ru_note_7 rfl ?_
    refine x_put (fs' := [_, _, _, _, _, _, _, _]) C k_Ru f_Ru_23 d_Ru_note_11 fU (by rfl) (by rfl) (by rfl) (Nat.le_of_ble_eq_true rfl) (by rfl) (fun h3 u3 => ?_)
    have fU := xUp_at u3
    have kp := kp.up u3 (by simp)
    refine x_aload_n C d_Ru_note_14 rfl rfl ?_
    refine x_aload_n C d_Ru_note_15 rfl rfl ?_
    refine x_get C k_Ru f_Ru_23 d_Ru_note_16 fU (by rfl) ?_
    refine x_if_ne (tgt := 26) C d_Ru_note_19 rfl (fun q19 => ?_) (fun q19 => ?_)
    · skip
      refine x_iconst (v := 0) C d_Ru_note_26 (by decide) ?_
      refine x_put (fs' := [_, _, _, _, _, _, _, _]) C k_Ru f_Ru_27 d_Ru_note_27 fU (by rfl) (by rfl) (by rfl) (Nat.le_of_ble_eq_true rfl) (by rfl) (fun h4 u4 => ?_)
      have fU := xUp_at u4
      have kp := kp.up u4 (by simp)
      refine x_aload_n C d_Ru_note_30 rfl rfl ?_
      refine x_get C k_Ru f_Ru_23 d_Ru_note_31 fU (by rfl) ?_
      refine x_if_eq (tgt := 47) C d_Ru_note_34 rfl (fun q34 => ?_) (fun q34 => ?_)
      · skip
        exact absurd q34 (by decide)
      · skip
        refine x_aload_n C d_Ru_note_37 rfl rfl ?_
        refine x_dup C d_Ru_note_38 rfl ?_
        refine x_get C k_Ru f_Ru_19 d_Ru_note_39 fU (by rfl) ?_
        refine x_iconst (v := 1) C d_Ru_note_42 (by decide) ?_
        refine x_iadd C d_Ru_note_43 ?_
        refine x_put (fs' := [_, _, _, _, _, _, _, _]) C k_Ru f_Ru_19 d_Ru_note_44 fU (by rfl) (by rfl) (by rfl) (Nat.le_of_ble_eq_true rfl) (by rfl) (fun h5 u5 => ?_)
        have fU := xUp_at u5
        have kp := kp.up u5 (by simp)
        refine x_vret C d_Ru_note_47 ?_
        first | exact absurd q19 (by decide) | exact absurd rfl q19 | exact absurd q34 (by decide) | exact absurd rfl q34 | (refine ⟨rfl, ?_, kp⟩; rw [fU]; first | (rw [if_pos q3, decide_eq_true q3]; rfl) | (rw [if_neg q3, decide_eq_false q3]; rfl))
    · skip
      exact absurd q19 (by decide)
set_option maxRecDepth 20000 in
set_option maxHeartbeats 1000000 in
theorem m_Ru_init {V : xV} {h : xH} {U : Nat} (fU : h U = some (.inr (3, [.null, .int 0, .int 0, .int 0, .int 0, .int 0, .long 0, .null]))) : xM V y_Ru_init b_Ru_init 1 none 1 [.ref U] h 1 16 (fun v h' => v = none ∧ ∃ rd, h' U = some (oRu .null 0 0 0 0 0 0 rd) ∧ h' rd = some (xI V 16 (fun _ => 0)) ∧ h rd = none ∧ xKeep [U] h h') := by
  refine xM_of true (by decide) (fun _ => rfl) (Nat.le_of_ble_eq_true rfl) (fun K C => ?_)
  show K 1 16 h 0 [(0, .ref U)] []
  have kp : xKeep [U] h h := xKeep.rf
  refine x_aload_n C d_Ru_init_0 rfl rfl ?_
  refine x_objInit C ⟨l_Ru_3, oi_i, oi_c⟩ (by decide) (Nat.le_of_ble_eq_true rfl) d_Ru_init_1 ?_
  refine x_aload_n C d_Ru_init_4 rfl rfl ?_
  refine x_bipush (v := 16) C d_Ru_init_5 (by decide) ?_
  refine x_newI (N := 16) C ac_int d_Ru_init_7 (by decide) (by decide) (by decide) (fun rd h1 n1 u1 => ?_)
  have x1_U := x_nn fU n1
  have fU := xUp_new u1 n1 fU
  have z_rd := kp.isn n1 (by simp only [List.mem_cons, List.not_mem_nil, or_false, not_or]; exact Ne.symm x1_U)
  have kp := kp.upN u1 z_rd
  have f_rd := xUp_at u1
  refine x_putF (fs' := [_, _, _, _, _, _, _, _]) C k_Ru g_Ru_9 d_Ru_init_9 fU (by rfl) (by rfl) (by rfl) (Nat.le_of_ble_eq_true rfl) (by rfl) (fun h2 u2 => ?_)
  have f_rd := xUp_ne u2 f_rd (by first | assumption | exact Ne.symm (by assumption) | exact x_ne f_rd fU (by simp))
  have fU := xUp_at u2
  have kp := kp.up u2 (by simp)
  refine x_vret C d_Ru_init_12 ?_
  exact ⟨rfl, rd, fU, f_rd, z_rd, kp⟩
set_option maxRecDepth 20000 in
set_option maxHeartbeats 1000000 in
theorem m_Ru_place {V : xV} {h : xH} {U rd : Nat} {gv on en fp sp : Int32} {tt : Int64} {S nb pk cd : Nat} {vb ls fi se fa nc np kc : Int32} (fS : h S = some (oSt vb ls fi se fa nc nb np pk kc cd)) (fU : h U = some (oRu (.ref S) gv on en fp sp tt rd)) {n i : Nat} (hi : i < n) : xM V y_Ru_place b_Ru_place 3 (some .int) 0 [.ref U, .int (nI i), .int (nI n)] h 0 0 (fun v h' => h' = h ∧ v = some (.int (nI (plc fa n i)))) := by
  refine xM_of false (by decide) (fun h => nomatch h) (Nat.le_of_ble_eq_true rfl) (fun K C => ?_)
  show K 0 0 h 0 [(0, .ref U), (1, .int (nI i)), (2, .int (nI n))] []
  refine x_aload_n C d_Ru_place_0 rfl rfl ?_
  refine x_get C k_Ru f_Ru_15 d_Ru_place_1 fU (by rfl) ?_
  refine x_get C k_St f_Ru_119 d_Ru_place_4 fS (by rfl) ?_
  refine x_if_eq (tgt := 18) C d_Ru_place_7 rfl (fun q7 => ?_) (fun q7 => ?_)
  · skip
    refine x_iload_n C d_Ru_place_18 rfl rfl ?_
    refine x_iret C d_Ru_place_19 ?_
    refine ⟨rfl, ?_⟩
    unfold plc
    first | (rw [if_pos q7]; done) | (rw [if_neg q7, show nI n - 1 = nI (n - 1) from pk_sub (b := 1) (by omega), pk_sub (by omega)]; done)
  · skip
    refine x_iload_n C d_Ru_place_10 rfl rfl ?_
    refine x_iconst (v := 1) C d_Ru_place_11 (by decide) ?_
    refine x_isub C d_Ru_place_12 ?_
    refine x_iload_n C d_Ru_place_13 rfl rfl ?_
    refine x_isub C d_Ru_place_14 ?_
    refine x_goto (tgt := 19) C d_Ru_place_15 rfl ?_
    refine x_iret C d_Ru_place_19 ?_
    refine ⟨rfl, ?_⟩
    unfold plc
    first | (rw [if_pos q7]; done) | (rw [if_neg q7, show nI n - 1 = nI (n - 1) from pk_sub (b := 1) (by omega), pk_sub (by omega)]; done)
set_option maxRecDepth 20000 in
set_option maxHeartbeats 1000000 in
theorem m_Ru_findRow {V : xV} {h : xH} {U rd S nb pk cd B ce co sr : Nat} {vb ls se fa nc : Int32} {np kc t1 t2 n2 : Nat} {f c s g : Nat → Int32} {po cp : Nat → Option Nat} {pick : Nat → Int32} {cf : Nat → tCd} {SS : Nat → Nat} (fS : h S = some (oSt vb ls (nI t1) se fa nc nb (nI np) pk (nI kc) cd)) (fpk : h pk = some (xR V 2 12 po)) (fcd : h cd = some (xR V 3 8 cp)) (hnp : np ≤ 12) (hkc : kc ≤ 8) (pO : pOps h po np pick) (pC : pCds h cp kc cf) (pT : pTa V h B ce co sr f c s) (hS : pS s SS) (ht1 : t1 < 10) (h2 : (se = -1 ∧ n2 = 1) ∨ (se = nI t2 ∧ t2 < 10 ∧ n2 = SS (t2 + 1) - SS t2)) (frd : h rd = some (xI V 16 g)) (hin : ∀ j, j < kc → cdIn (cf j)) {gv on en : Int32} {tt : Int64} {i j : Nat} (fU : h U = some (oRu (.ref S) gv on en (nI i) (nI j) tt rd)) (hi : i ≤ (SS (t1 + 1) - SS t1)) (hj : j ≤ n2) : xM V y_Ru_findRow b_Ru_findRow 4 (some .boolean) 4 [.ref U, .ref B] h 0 0 (fun v h' => ∃ g', xKeep [U, rd] h h' ∧ h' rd = some (xI V 16 g') ∧ rdE se g' g ∧ ((v = some (.int 0) ∧ bad (fun a b => cdsVal kc cf (rdF f g ((SS t1 + plc fa (SS (t1 + 1) - SS t1) a) * 6) (sec se fa (SS t2) n2 b))) (SS (t1 + 1) - SS t1) n2 i j (SS (t1 + 1) - SS t1) 0 ∧ ∃ i' j', i' ≤ (SS (t1 + 1) - SS t1) ∧ j' ≤ n2 ∧ h' U = some (oRu (.ref S) gv on en (nI i') (nI j') tt rd)) ∨ (v = some (.int 1) ∧ ∃ i' j', i' < (SS (t1 + 1) - SS t1) ∧ j' < n2 ∧ bhd i j i' j' ∧ bad (fun a b => cdsVal kc cf (rdF f g ((SS t1 + plc fa (SS (t1 + 1) - SS t1) a) * 6) (sec se fa (SS t2) n2 b))) (SS (t1 + 1) - SS t1) n2 i j i' j' ∧ (fun a b => cdsVal kc cf (rdF f g ((SS t1 + plc fa (SS (t1 + 1) - SS t1) a) * 6) (sec se fa (SS t2) n2 b))) i' j' = true ∧ g' = rdF f g ((SS t1 + plc fa (SS (t1 + 1) - SS t1) i') * 6) (sec se fa (SS t2) n2 j') ∧ h' U = some (oRu (.ref S) gv on en (nI i') (nI (j' + 1)) tt rd)))) := by
  refine xM_of false (by decide) (fun h => nomatch h) (Nat.le_of_ble_eq_true rfl) (fun K C => ?_)
  show K 0 0 h 0 [(0, .ref U), (1, .ref B)] []
  have kp : xKeep [U, rd] h h := xKeep.rf
  obtain ⟨fB, fce, fco, fsr⟩ := pT
  have fU0 := fU
  have frd0 := frd
  have n_S : S ∉ [U, rd] := nm_c (x_ne fS fU (by simp)) (nm_c (x_ne fS frd (by simp)) nm_n)
  have n_pk : pk ∉ [U, rd] := nm_c (x_ne fpk fU (by simp)) (nm_c (x_ne fpk frd (by simp)) nm_n)
  have n_cd : cd ∉ [U, rd] := nm_c (x_ne fcd fU (by simp)) (nm_c (x_ne fcd frd (by simp)) nm_n)
  have n_B : B ∉ [U, rd] := nm_c (x_ne fB fU (by simp)) (nm_c (x_ne fB frd (by simp)) nm_n)
  have n_ce : ce ∉ [U, rd] := nm_c (x_ne fce fU (by simp)) (nm_c (x_ne fce frd (by simp)) nm_n)
  have n_co : co ∉ [U, rd] := nm_c (x_ne fco fU (by simp)) (nm_c (x_ne fco frd (by simp)) nm_n)
  have n_sr : sr ∉ [U, rd] := nm_c (x_ne fsr fU (by simp)) (nm_c (x_ne fsr frd (by simp)) nm_n)
  have hs1 := hS.1 t1 (by omega)
  have hl1 := hS.le (t1 + 1) (by omega)
  have hm1 := hS.2.1 t1 ht1
  have fSo := fS
  have fpko := fpk
  have fcdo := fcd
  have fBo := fB
  have fceo := fce
  have fcoo := fco
  have fsro := fsr
  have pOo := pO
  have pCo := pC
  have hn2 : n2 ≤ 400 := by rcases h2 with z | z; omega; have := hS.le (t2 + 1) (by omega); omega
  have loop : ∀ m : Nat, ∀ (i1 j1 : Nat) (h1 : xH) (g1 : Nat → Int32), (SS (t1 + 1) - SS t1) - i1 < m → i1 ≤ (SS (t1 + 1) - SS t1) → j1 ≤ n2 → bhd i j i1 j1 → bad (fun a b => cdsVal kc cf (rdF f g ((SS t1 + plc fa (SS (t1 + 1) - SS t1) a) * 6) (sec se fa (SS t2) n2 b))) (SS (t1 + 1) - SS t1) n2 i j i1 j1 → h1 U = some (oRu (.ref S) gv on en (nI i1) (nI j1) tt rd) → h1 rd = some (xI V 16 g1) → rdE se g1 g → xKeep [U, rd] h h1 → K 0 0 h1 39 [(3, .int (nI n2)), (2, .int (nI (SS (t1 + 1) - SS t1))), (0, .ref U), (1, .ref B)] [] := by
    intro m
    induction m with
    | zero => intro i1 j1 h1 g1 hm hi1 hj1 hbh hbad fU frd hE kp; omega
    | succ m ih =>
      intro i1 j1 h1 g1 hm hi1 hj1 hbh hbad fU frd hE kp
      have fS := kp.get fS n_S
      have fpk := kp.get fpk n_pk
      have fcd := kp.get fcd n_cd
      have fB := kp.get fB n_B
      have fce := kp.get fce n_ce
      have fco := kp.get fco n_co
      have fsr := kp.get fsr n_sr
      have pO := pO.keepC kp (no_c fU0 rfl (no_c frd0 rfl no_n))
      have pC := pC.keepC kp (no_c fU0 rfl (no_c frd0 rfl no_n))
      have inner : ∀ m2 : Nat, ∀ (j1 : Nat) (h1 : xH) (g1 : Nat → Int32), n2 - j1 < m2 → i1 < (SS (t1 + 1) - SS t1) → j1 ≤ n2 → bhd i j i1 j1 → bad (fun a b => cdsVal kc cf (rdF f g ((SS t1 + plc fa (SS (t1 + 1) - SS t1) a) * 6) (sec se fa (SS t2) n2 b))) (SS (t1 + 1) - SS t1) n2 i j i1 j1 → h1 U = some (oRu (.ref S) gv on en (nI i1) (nI j1) tt rd) → h1 rd = some (xI V 16 g1) → rdE se g1 g → (∀ c, c < 6 → g1 c = f (((SS t1 + plc fa (SS (t1 + 1) - SS t1) i1) * 6) + c)) → (se = -1 → g1 = rdF f g ((SS t1 + plc fa (SS (t1 + 1) - SS t1) i1) * 6) none) → xKeep [U, rd] h h1 → K 0 0 h1 72 [(3, .int (nI n2)), (2, .int (nI (SS (t1 + 1) - SS t1))), (0, .ref U), (1, .ref B)] [] := by
        intro m2
        induction m2 with
        | zero => intro j1 h1 g1 hm2 hi2 hj1 hbh hbad fU frd hE h6 hg1 kp; omega
        | succ m2 ih2 =>
          intro j1 h1 g1 hm2 hi2 hj1 hbh hbad fU frd hE h6 hg1 kp
          have fS := fSo
          have fpk := fpko
          have fcd := fcdo
          have fB := fBo
          have fce := fceo
          have fco := fcoo
          have fsr := fsro
          have pO := pOo
          have pC := pCo
          have fS := kp.get fS n_S
          have fpk := kp.get fpk n_pk
          have fcd := kp.get fcd n_cd
          have fB := kp.get fB n_B
          have fce := kp.get fce n_ce
          have fco := kp.get fco n_co
          have fsr := kp.get fsr n_sr
          have pO := pO.keepC kp (no_c fU0 rfl (no_c frd0 rfl no_n))
          have pC := pC.keepC kp (no_c fU0 rfl (no_c frd0 rfl no_n))
          refine x_aload_n C d_Ru_findRow_72 rfl rfl ?_
          refine x_get C k_Ru f_Ru_33 d_Ru_findRow_73 fU (by rfl) ?_
          refine x_iload_n C d_Ru_findRow_76 rfl rfl ?_
          refine x_icmp_ge (tgt := 143) C d_Ru_findRow_77 rfl (fun q77 => ?_) (fun q77 => ?_)
          · skip
            have hj2 := nge_of q77 (by omega)
            refine x_aload_n C d_Ru_findRow_143 rfl rfl ?_
            refine x_iconst (v := 0) C d_Ru_findRow_144 (by decide) ?_
            refine x_put (fs' := [_, _, _, _, _, _, _, _]) C k_Ru f_Ru_33 d_Ru_findRow_145 fU (by rfl) (by rfl) (by rfl) (Nat.le_of_ble_eq_true rfl) (by rfl) (fun h1 u1 => ?_)
            have pO := pO.keepU u1 fU rfl
            have pC := pC.keepU u1 fU rfl
            have frd := xUp_ne u1 frd (by first | assumption | exact Ne.symm (by assumption) | exact x_ne frd fU (by simp))
            have fS := xUp_ne u1 fS (by first | assumption | exact Ne.symm (by assumption) | exact x_ne fS fU (by simp))
            have fpk := xUp_ne u1 fpk (by first | assumption | exact Ne.symm (by assumption) | exact x_ne fpk fU (by simp))
            have fcd := xUp_ne u1 fcd (by first | assumption | exact Ne.symm (by assumption) | exact x_ne fcd fU (by simp))
            have fB := xUp_ne u1 fB (by first | assumption | exact Ne.symm (by assumption) | exact x_ne fB fU (by simp))
            have fce := xUp_ne u1 fce (by first | assumption | exact Ne.symm (by assumption) | exact x_ne fce fU (by simp))
            have fco := xUp_ne u1 fco (by first | assumption | exact Ne.symm (by assumption) | exact x_ne fco fU (by simp))
            have fsr := xUp_ne u1 fsr (by first | assumption | exact Ne.symm (by assumption) | exact x_ne fsr fU (by simp))
            have fU := xUp_at u1
            have kp := kp.up u1 (by simp)
            refine x_aload_n C d_Ru_findRow_148 rfl rfl ?_
            refine x_dup C d_Ru_findRow_149 rfl ?_
            refine x_get C k_Ru f_Ru_30 d_Ru_findRow_150 fU (by rfl) ?_
            refine x_iconst (v := 1) C d_Ru_findRow_153 (by decide) ?_
            refine x_iadd C d_Ru_findRow_154 ?_
            refine x_put (fs' := [_, _, _, _, _, _, _, _]) C k_Ru f_Ru_30 d_Ru_findRow_155 fU (by rfl) (by rfl) (by rfl) (Nat.le_of_ble_eq_true rfl) (by rfl) (fun h2 u2 => ?_)
            have pO := pO.keepU u2 fU rfl
            have pC := pC.keepU u2 fU rfl
            have frd := xUp_ne u2 frd (by first | assumption | exact Ne.symm (by assumption) | exact x_ne frd fU (by simp))
            have fS := xUp_ne u2 fS (by first | assumption | exact Ne.symm (by assumption) | exact x_ne fS fU (by simp))
            have fpk := xUp_ne u2 fpk (by first | assumption | exact Ne.symm (by assumption) | exact x_ne fpk fU (by simp))
            have fcd := xUp_ne u2 fcd (by first | assumption | exact Ne.symm (by assumption) | exact x_ne fcd fU (by simp))
            have fB := xUp_ne u2 fB (by first | assumption | exact Ne.symm (by assumption) | exact x_ne fB fU (by simp))
            have fce := xUp_ne u2 fce (by first | assumption | exact Ne.symm (by assumption) | exact x_ne fce fU (by simp))
            have fco := xUp_ne u2 fco (by first | assumption | exact Ne.symm (by assumption) | exact x_ne fco fU (by simp))
            have fsr := xUp_ne u2 fsr (by first | assumption | exact Ne.symm (by assumption) | exact x_ne fsr fU (by simp))
            have fU := xUp_at u2
            have kp := kp.up u2 (by simp)
            refine x_goto (tgt := 39) C d_Ru_findRow_158 rfl ?_
            exact ih (i1 + 1) 0 _ _ (by omega) (by omega) (by omega) (by unfold bhd at hbh ⊢; omega) (hbad.line hj2) (by rw [fU, nI_1]; rfl) frd hE kp
          · skip
            have hj2 := nlt_of q77 (by omega) (by omega)
            refine x_aload_n C d_Ru_findRow_80 rfl rfl ?_
            refine x_get C k_Ru f_Ru_15 d_Ru_findRow_81 fU (by rfl) ?_
            refine x_get C k_St f_Ru_113 d_Ru_findRow_84 fS (by rfl) ?_
            refine x_iconst (v := -1) C d_Ru_findRow_87 (by decide) ?_
            refine x_icmp_eq (tgt := 117) C d_Ru_findRow_88 rfl (fun q88 => ?_) (fun q88 => ?_)
            · skip
              have hg2 : g1 = rdF f g ((SS t1 + plc fa (SS (t1 + 1) - SS t1) i1) * 6) (sec se fa (SS t2) n2 j1) := by rw [show sec se fa (SS t2) n2 j1 = none from if_pos q88]; exact hg1 q88
              have hE2 := hE
              have h62 := h6
              refine x_aload_n C d_Ru_findRow_117 rfl rfl ?_
              refine x_dup C d_Ru_findRow_118 rfl ?_
              refine x_get C k_Ru f_Ru_33 d_Ru_findRow_119 fU (by rfl) ?_
              refine x_iconst (v := 1) C d_Ru_findRow_122 (by decide) ?_
              refine x_iadd C d_Ru_findRow_123 ?_
              refine x_put (fs' := [_, _, _, _, _, _, _, _]) C k_Ru f_Ru_33 d_Ru_findRow_124 fU (by rfl) (by rfl) (by rfl) (Nat.le_of_ble_eq_true rfl) (by rfl) (fun h3 u3 => ?_)
              have pO := pO.keepU u3 fU rfl
              have pC := pC.keepU u3 fU rfl
              have frd := xUp_ne u3 frd (by first | assumption | exact Ne.symm (by assumption) | exact x_ne frd fU (by simp))
              have fS := xUp_ne u3 fS (by first | assumption | exact Ne.symm (by assumption) | exact x_ne fS fU (by simp))
              have fpk := xUp_ne u3 fpk (by first | assumption | exact Ne.symm (by assumption) | exact x_ne fpk fU (by simp))
              have fcd := xUp_ne u3 fcd (by first | assumption | exact Ne.symm (by assumption) | exact x_ne fcd fU (by simp))
              have fB := xUp_ne u3 fB (by first | assumption | exact Ne.symm (by assumption) | exact x_ne fB fU (by simp))
              have fce := xUp_ne u3 fce (by first | assumption | exact Ne.symm (by assumption) | exact x_ne fce fU (by simp))
              have fco := xUp_ne u3 fco (by first | assumption | exact Ne.symm (by assumption) | exact x_ne fco fU (by simp))
              have fsr := xUp_ne u3 fsr (by first | assumption | exact Ne.symm (by assumption) | exact x_ne fsr fU (by simp))
              have fU := xUp_at u3
              have kp := kp.up u3 (by simp)
              refine x_aload_n C d_Ru_findRow_127 rfl rfl ?_
              refine x_get C k_Ru f_Ru_15 d_Ru_findRow_128 fU (by rfl) ?_
              refine x_aload_n C d_Ru_findRow_131 rfl rfl ?_
              refine x_get C k_Ru f_Ru_9 d_Ru_findRow_132 fU (by rfl) ?_
              refine x_callV C l_Ru_83 v_St_holds d_Ru_findRow_135 (m_St_holds fS fpk fcd hnp hkc pO pC frd hin) fS rfl (by rfl) (by rfl) (by decide) (by decide) (Nat.le_of_ble_eq_true rfl) ?_
              rintro v9 h9 ⟨rfl, rfl⟩
              rw [hg2]
              refine x_if_eq (tgt := 72) C d_Ru_findRow_138 rfl (fun q138 => ?_) (fun q138 => ?_)
              · skip
                replace q138 := bI_f q138
                exact ih2 (j1 + 1) _ _ (by omega) hi2 (by omega) (by unfold bhd at hbh ⊢; omega) (hbad.next (by first | exact q138 | (rw [← hg2]; exact q138))) (by rw [fU, nI_1]) frd hE2 h62 (fun z => by first | exact hg1 z | exact absurd z q88) kp
              · skip
                replace q138 := bI_t q138
                refine x_iconst (v := 1) C d_Ru_findRow_141 (by decide) ?_
                refine x_zret C d_Ru_findRow_142 (by rfl) ?_
                exact ⟨_, kp, frd, hE2, Or.inr ⟨rfl, i1, j1, hi2, hj2, hbh, hbad, (by first | exact q138 | (rw [← hg2]; exact q138)), hg2, by rw [fU, nI_1]⟩⟩
            · skip
              have hse : se = nI t2 ∧ t2 < 10 ∧ n2 = SS (t2 + 1) - SS t2 := by rcases h2 with z | z; exact absurd z.1 q88; exact z
              have hs2 := hS.1 t2 (by omega)
              have hpl2 := plc_lt (fa := fa) hj2
              have hl2 := hS.le (t2 + 1) (by omega)
              have hm2 := hS.2.1 t2 hse.2.1
              refine x_aload_n C d_Ru_findRow_91 rfl rfl ?_
              refine x_aload_n C d_Ru_findRow_92 rfl rfl ?_
              refine x_get C k_Ru f_Ru_15 d_Ru_findRow_93 fU (by rfl) ?_
              refine x_get C k_St f_Ru_113 d_Ru_findRow_96 fS (by rfl) ?_
              refine x_aload_n C d_Ru_findRow_99 rfl rfl ?_
              refine x_aload_n C d_Ru_findRow_100 rfl rfl ?_
              refine x_get C k_Ru f_Ru_33 d_Ru_findRow_101 fU (by rfl) ?_
              refine x_iload_n C d_Ru_findRow_104 rfl rfl ?_
              refine x_callV C l_Ru_116 v_Ru_place d_Ru_findRow_105 (m_Ru_place fS fU (n := n2) (i := j1) hj2) fU rfl (by rfl) (by rfl) (by decide) (by decide) (Nat.le_of_ble_eq_true rfl) ?_
              rintro v9 h9 ⟨rfl, rfl⟩
              refine x_aload_n C d_Ru_findRow_108 rfl rfl ?_
              refine x_get C k_Ru f_Ru_9 d_Ru_findRow_109 fU (by rfl) ?_
              refine x_bipush (v := 10) C d_Ru_findRow_112 (by decide) ?_
              rw [hse.1]
              refine x_callV C l_Ru_80 v_Ta_read d_Ru_findRow_114 (m_Ta_read ⟨fB, fce, fco, fsr⟩ (t := t2) (p := nI (plc fa n2 j1)) (a := (SS t2 + plc fa n2 j1) * 6) (by omega) (by omega) (by rw [hs2, cell_eq]) frd (b := 10) (by decide)) fB rfl (by rfl) (by rfl) (by decide) (by decide) (Nat.le_of_ble_eq_true rfl) ?_
              rintro v4 h4 ⟨rfl, u4⟩
              have pO := pO.keepU u4 frd rfl
              have pC := pC.keepU u4 frd rfl
              have fU := xUp_ne u4 fU (by first | assumption | exact Ne.symm (by assumption) | exact x_ne fU frd (by simp))
              have fS := xUp_ne u4 fS (by first | assumption | exact Ne.symm (by assumption) | exact x_ne fS frd (by simp))
              have fpk := xUp_ne u4 fpk (by first | assumption | exact Ne.symm (by assumption) | exact x_ne fpk frd (by simp))
              have fcd := xUp_ne u4 fcd (by first | assumption | exact Ne.symm (by assumption) | exact x_ne fcd frd (by simp))
              have fB := xUp_ne u4 fB (by first | assumption | exact Ne.symm (by assumption) | exact x_ne fB frd (by simp))
              have fce := xUp_ne u4 fce (by first | assumption | exact Ne.symm (by assumption) | exact x_ne fce frd (by simp))
              have fco := xUp_ne u4 fco (by first | assumption | exact Ne.symm (by assumption) | exact x_ne fco frd (by simp))
              have fsr := xUp_ne u4 fsr (by first | assumption | exact Ne.symm (by assumption) | exact x_ne fsr frd (by simp))
              have frd := xUp_at u4
              have kp := kp.up u4 (by simp)
              have hg2 := rd_two (o2 := (SS t2 + plc fa n2 j1) * 6) hE h6
              have hsec : sec se fa (SS t2) n2 j1 = some ((SS t2 + plc fa n2 j1) * 6) := if_neg q88
              rw [← hsec] at hg2
              have hE2 := hE.two (f := f) (o := (SS t2 + plc fa n2 j1) * 6) q88
              have h62 : ∀ c, c < 6 → va_cpy f g1 ((SS t2 + plc fa n2 j1) * 6) 10 6 c = f (((SS t1 + plc fa (SS (t1 + 1) - SS t1) i1) * 6) + c) := fun c hc => by rw [pk_cpy_out (Or.inl (by omega))]; exact h6 c hc
              refine x_aload_n C d_Ru_findRow_117 rfl rfl ?_
              refine x_dup C d_Ru_findRow_118 rfl ?_
              refine x_get C k_Ru f_Ru_33 d_Ru_findRow_119 fU (by rfl) ?_
              refine x_iconst (v := 1) C d_Ru_findRow_122 (by decide) ?_
              refine x_iadd C d_Ru_findRow_123 ?_
              refine x_put (fs' := [_, _, _, _, _, _, _, _]) C k_Ru f_Ru_33 d_Ru_findRow_124 fU (by rfl) (by rfl) (by rfl) (Nat.le_of_ble_eq_true rfl) (by rfl) (fun h5 u5 => ?_)
              have pO := pO.keepU u5 fU rfl
              have pC := pC.keepU u5 fU rfl
              have frd := xUp_ne u5 frd (by first | assumption | exact Ne.symm (by assumption) | exact x_ne frd fU (by simp))
              have fS := xUp_ne u5 fS (by first | assumption | exact Ne.symm (by assumption) | exact x_ne fS fU (by simp))
              have fpk := xUp_ne u5 fpk (by first | assumption | exact Ne.symm (by assumption) | exact x_ne fpk fU (by simp))
              have fcd := xUp_ne u5 fcd (by first | assumption | exact Ne.symm (by assumption) | exact x_ne fcd fU (by simp))
              have fB := xUp_ne u5 fB (by first | assumption | exact Ne.symm (by assumption) | exact x_ne fB fU (by simp))
              have fce := xUp_ne u5 fce (by first | assumption | exact Ne.symm (by assumption) | exact x_ne fce fU (by simp))
              have fco := xUp_ne u5 fco (by first | assumption | exact Ne.symm (by assumption) | exact x_ne fco fU (by simp))
              have fsr := xUp_ne u5 fsr (by first | assumption | exact Ne.symm (by assumption) | exact x_ne fsr fU (by simp))
              have fU := xUp_at u5
              have kp := kp.up u5 (by simp)
              refine x_aload_n C d_Ru_findRow_127 rfl rfl ?_
              refine x_get C k_Ru f_Ru_15 d_Ru_findRow_128 fU (by rfl) ?_
              refine x_aload_n C d_Ru_findRow_131 rfl rfl ?_
              refine x_get C k_Ru f_Ru_9 d_Ru_findRow_132 fU (by rfl) ?_
              refine x_callV C l_Ru_83 v_St_holds d_Ru_findRow_135 (m_St_holds fS fpk fcd hnp hkc pO pC frd hin) fS rfl (by rfl) (by rfl) (by decide) (by decide) (Nat.le_of_ble_eq_true rfl) ?_
              rintro v9 h9 ⟨rfl, rfl⟩
              rw [hg2]
              refine x_if_eq (tgt := 72) C d_Ru_findRow_138 rfl (fun q138 => ?_) (fun q138 => ?_)
              · skip
                replace q138 := bI_f q138
                exact ih2 (j1 + 1) _ _ (by omega) hi2 (by omega) (by unfold bhd at hbh ⊢; omega) (hbad.next (by first | exact q138 | (rw [← hg2]; exact q138))) (by rw [fU, nI_1]) frd hE2 h62 (fun z => by first | exact hg1 z | exact absurd z q88) kp
              · skip
                replace q138 := bI_t q138
                refine x_iconst (v := 1) C d_Ru_findRow_141 (by decide) ?_
                refine x_zret C d_Ru_findRow_142 (by rfl) ?_
                exact ⟨_, kp, frd, hE2, Or.inr ⟨rfl, i1, j1, hi2, hj2, hbh, hbad, (by first | exact q138 | (rw [← hg2]; exact q138)), hg2, by rw [fU, nI_1]⟩⟩
      refine x_aload_n C d_Ru_findRow_39 rfl rfl ?_
      refine x_get C k_Ru f_Ru_30 d_Ru_findRow_40 fU (by rfl) ?_
      refine x_iload_n C d_Ru_findRow_43 rfl rfl ?_
      refine x_icmp_ge (tgt := 161) C d_Ru_findRow_44 rfl (fun q44 => ?_) (fun q44 => ?_)
      · skip
        have hi2 := nge_of q44 (by omega)
        refine x_iconst (v := 0) C d_Ru_findRow_161 (by decide) ?_
        refine x_zret C d_Ru_findRow_162 (by rfl) ?_
        have hin1 : i1 = (SS (t1 + 1) - SS t1) := by omega
        exact ⟨_, kp, frd, hE, Or.inl ⟨rfl, fun a b z1 z2 z3 z4 => hbad a b z1 z2 z3 (by omega), i1, j1, hi1, hj1, fU⟩⟩
      · skip
        have hi2 := nlt_of q44 (by omega) (by omega)
        have hpl := plc_lt (fa := fa) hi2
        refine x_aload_n C d_Ru_findRow_47 rfl rfl ?_
        refine x_aload_n C d_Ru_findRow_48 rfl rfl ?_
        refine x_get C k_Ru f_Ru_15 d_Ru_findRow_49 fU (by rfl) ?_
        refine x_get C k_St f_Ru_41 d_Ru_findRow_52 fS (by rfl) ?_
        refine x_aload_n C d_Ru_findRow_55 rfl rfl ?_
        refine x_aload_n C d_Ru_findRow_56 rfl rfl ?_
        refine x_get C k_Ru f_Ru_30 d_Ru_findRow_57 fU (by rfl) ?_
        refine x_iload_n C d_Ru_findRow_60 rfl rfl ?_
        refine x_callV C l_Ru_116 v_Ru_place d_Ru_findRow_61 (m_Ru_place fS fU (n := (SS (t1 + 1) - SS t1)) (i := i1) hi2) fU rfl (by rfl) (by rfl) (by decide) (by decide) (Nat.le_of_ble_eq_true rfl) ?_
        rintro v9 h9 ⟨rfl, rfl⟩
        refine x_aload_n C d_Ru_findRow_64 rfl rfl ?_
        refine x_get C k_Ru f_Ru_9 d_Ru_findRow_65 fU (by rfl) ?_
        refine x_iconst (v := 0) C d_Ru_findRow_68 (by decide) ?_
        refine x_callV C l_Ru_80 v_Ta_read d_Ru_findRow_69 (m_Ta_read ⟨fB, fce, fco, fsr⟩ (t := t1) (p := nI (plc fa (SS (t1 + 1) - SS t1) i1)) (a := ((SS t1 + plc fa (SS (t1 + 1) - SS t1) i1) * 6)) (by omega) (by omega) (by rw [hs1, cell_eq]) frd (b := 0) (by decide)) fB rfl (by rfl) (by rfl) (by decide) (by decide) (Nat.le_of_ble_eq_true rfl) ?_
        rintro v6 h6 ⟨rfl, u6⟩
        have pO := pO.keepU u6 frd rfl
        have pC := pC.keepU u6 frd rfl
        have fU := xUp_ne u6 fU (by first | assumption | exact Ne.symm (by assumption) | exact x_ne fU frd (by simp))
        have fS := xUp_ne u6 fS (by first | assumption | exact Ne.symm (by assumption) | exact x_ne fS frd (by simp))
        have fpk := xUp_ne u6 fpk (by first | assumption | exact Ne.symm (by assumption) | exact x_ne fpk frd (by simp))
        have fcd := xUp_ne u6 fcd (by first | assumption | exact Ne.symm (by assumption) | exact x_ne fcd frd (by simp))
        have fB := xUp_ne u6 fB (by first | assumption | exact Ne.symm (by assumption) | exact x_ne fB frd (by simp))
        have fce := xUp_ne u6 fce (by first | assumption | exact Ne.symm (by assumption) | exact x_ne fce frd (by simp))
        have fco := xUp_ne u6 fco (by first | assumption | exact Ne.symm (by assumption) | exact x_ne fco frd (by simp))
        have fsr := xUp_ne u6 fsr (by first | assumption | exact Ne.symm (by assumption) | exact x_ne fsr frd (by simp))
        have frd := xUp_at u6
        have kp := kp.up u6 (by simp)
        exact inner (n2 + 1) j1 _ _ (by omega) hi2 hj1 hbh hbad fU frd hE.one (fun c hc => by rw [pk_cpy_in (by omega) (by omega)]; congr 1) (fun z => by subst z; exact rd_one hE) kp
  refine x_aload_n C d_Ru_findRow_0 rfl rfl ?_
  refine x_aload_n C d_Ru_findRow_1 rfl rfl ?_
  refine x_get C k_Ru f_Ru_15 d_Ru_findRow_2 fU (by rfl) ?_
  refine x_get C k_St f_Ru_41 d_Ru_findRow_5 fS (by rfl) ?_
  refine x_callV C l_Ru_76 v_Ta_rowsOf d_Ru_findRow_8 (m_Ta_rowsOf ⟨fB, fce, fco, fsr⟩ (nI t1)) fB rfl (by rfl) (by rfl) (by decide) (by decide) (Nat.le_of_ble_eq_true rfl) ?_
  rintro v9 h9 ⟨rfl, rfl⟩
  rw [hS.row ht1]
  refine x_istore_n (lv' := [(2, _), (0, _), (1, _)]) C d_Ru_findRow_11 rfl (by decide) (by rfl) ?_
  refine x_aload_n C d_Ru_findRow_12 rfl rfl ?_
  refine x_get C k_Ru f_Ru_15 d_Ru_findRow_13 fU (by rfl) ?_
  refine x_get C k_St f_Ru_113 d_Ru_findRow_16 fS (by rfl) ?_
  refine x_iconst (v := -1) C d_Ru_findRow_19 (by decide) ?_
  refine x_icmp_ne (tgt := 27) C d_Ru_findRow_20 rfl (fun q20 => ?_) (fun q20 => ?_)
  · skip
    refine x_aload_n C d_Ru_findRow_27 rfl rfl ?_
    refine x_aload_n C d_Ru_findRow_28 rfl rfl ?_
    refine x_get C k_Ru f_Ru_15 d_Ru_findRow_29 fU (by rfl) ?_
    refine x_get C k_St f_Ru_113 d_Ru_findRow_32 fS (by rfl) ?_
    refine x_callV C l_Ru_76 v_Ta_rowsOf d_Ru_findRow_35 (m_Ta_rowsOf ⟨fB, fce, fco, fsr⟩ se) fB rfl (by rfl) (by rfl) (by decide) (by decide) (Nat.le_of_ble_eq_true rfl) ?_
    rintro v9 h9 ⟨rfl, rfl⟩
    have hse : se = nI t2 ∧ t2 < 10 ∧ n2 = SS (t2 + 1) - SS t2 := by rcases h2 with z | z; exact absurd z.1 q20; exact z
    rw [hse.1, hS.row hse.2.1, ← hse.2.2]
    refine x_istore_n (lv' := [(3, _), (2, _), (0, _), (1, _)]) C d_Ru_findRow_38 rfl (by decide) (by rfl) ?_
    first | exact loop ((SS (t1 + 1) - SS t1) + 1) i j _ g (by omega) hi hj (Or.inr ⟨rfl, Nat.le_refl _⟩) bad.rf fU0 frd0 rdE.rf xKeep.rf | (subst hn21; exact loop ((SS (t1 + 1) - SS t1) + 1) i j _ g (by omega) hi hj (Or.inr ⟨rfl, Nat.le_refl _⟩) bad.rf fU0 frd0 rdE.rf xKeep.rf)
  · skip
    have hn21 : n2 = 1 := by rcases h2 with z | z; exact z.2; exact absurd (z.1.symm.trans q20) (nI_m1 (by omega))
    refine x_iconst (v := 1) C d_Ru_findRow_23 (by decide) ?_
    refine x_goto (tgt := 38) C d_Ru_findRow_24 rfl ?_
    refine x_istore_n (lv' := [(3, _), (2, _), (0, _), (1, _)]) C d_Ru_findRow_38 rfl (by decide) (by rfl) ?_
    first | exact loop ((SS (t1 + 1) - SS t1) + 1) i j _ g (by omega) hi hj (Or.inr ⟨rfl, Nat.le_refl _⟩) bad.rf fU0 frd0 rdE.rf xKeep.rf | (subst hn21; exact loop ((SS (t1 + 1) - SS t1) + 1) i j _ g (by omega) hi hj (Or.inr ⟨rfl, Nat.le_refl _⟩) bad.rf fU0 frd0 rdE.rf xKeep.rf)
set_option maxRecDepth 20000 in
set_option maxHeartbeats 1000000 in
theorem m_Ru_giveRow {V : xV} {h : xH} {U rd S nb pk cd B ce co sr : Nat} {vb ls se fa nc : Int32} {np kc t1 t2 n2 : Nat} {f c s g : Nat → Int32} {po cp : Nat → Option Nat} {pick : Nat → Int32} {cf : Nat → tCd} {SS : Nat → Nat} (fS : h S = some (oSt vb ls (nI t1) se fa nc nb (nI np) pk (nI kc) cd)) (fpk : h pk = some (xR V 2 12 po)) (fcd : h cd = some (xR V 3 8 cp)) (hnp : np ≤ 12) (hkc : kc ≤ 8) (pO : pOps h po np pick) (pC : pCds h cp kc cf) (pT : pTa V h B ce co sr f c s) (hS : pS s SS) (ht1 : t1 < 10) (h2 : (se = -1 ∧ n2 = 1) ∨ (se = nI t2 ∧ t2 < 10 ∧ n2 = SS (t2 + 1) - SS t2)) (frd : h rd = some (xI V 16 g)) (hin : ∀ j, j < kc → cdIn (cf j)) {gv on en : Int32} {tt : Int64} {i j : Nat} (fU : h U = some (oRu (.ref S) gv on en (nI i) (nI j) tt rd)) (hi : i ≤ (SS (t1 + 1) - SS t1)) (hj : j ≤ n2) : xM V y_Ru_giveRow b_Ru_giveRow 2 (some .int) 5 [.ref U, .ref B] h 0 0 (fun v h' => ∃ g', xKeep [U, rd] h h' ∧ h' rd = some (xI V 16 g') ∧ rdE se g' g ∧ ((v = some (.int 0) ∧ bad (fun a b => cdsVal kc cf (rdF f g ((SS t1 + plc fa (SS (t1 + 1) - SS t1) a) * 6) (sec se fa (SS t2) n2 b))) (SS (t1 + 1) - SS t1) n2 i j (SS (t1 + 1) - SS t1) 0 ∧ ∃ i' j', i' ≤ (SS (t1 + 1) - SS t1) ∧ j' ≤ n2 ∧ h' U = some (oRu (.ref S) gv on en (nI i') (nI j') tt rd)) ∨ (v = some (.int 1) ∧ ∃ i' j', i' < (SS (t1 + 1) - SS t1) ∧ j' < n2 ∧ bhd i j i' j' ∧ bad (fun a b => cdsVal kc cf (rdF f g ((SS t1 + plc fa (SS (t1 + 1) - SS t1) a) * 6) (sec se fa (SS t2) n2 b))) (SS (t1 + 1) - SS t1) n2 i j i' j' ∧ (fun a b => cdsVal kc cf (rdF f g ((SS t1 + plc fa (SS (t1 + 1) - SS t1) a) * 6) (sec se fa (SS t2) n2 b))) i' j' = true ∧ g' = rdF f g ((SS t1 + plc fa (SS (t1 + 1) - SS t1) i') * 6) (sec se fa (SS t2) n2 j') ∧ h' U = some (oRu (.ref S) gv on en (nI i') (nI (j' + 1)) tt rd)))) := by
  refine xM_of false (by decide) (fun h => nomatch h) (Nat.le_of_ble_eq_true rfl) (fun K C => ?_)
  show K 0 0 h 0 [(0, .ref U), (1, .ref B)] []
  obtain ⟨fB, fce, fco, fsr⟩ := pT
  refine x_aload_n C d_Ru_giveRow_0 rfl rfl ?_
  refine x_aload_n C d_Ru_giveRow_1 rfl rfl ?_
  refine x_callV C l_Ru_91 v_Ru_findRow d_Ru_giveRow_2 (m_Ru_findRow fS fpk fcd hnp hkc pO pC ⟨fB, fce, fco, fsr⟩ hS ht1 h2 frd hin fU hi hj) fU rfl (by rfl) (by rfl) (by decide) (by decide) (Nat.le_of_ble_eq_true rfl) ?_
  rintro v1 h1 ⟨g', kp1, frd', hE', ⟨rfl, hbad, i', j', hi', hj', fU'⟩ | ⟨rfl, i', j', hi', hj', hbh, hbad, hG, hg', fU'⟩⟩
  · skip
    refine x_if_eq (tgt := 12) C d_Ru_giveRow_5 rfl (fun q5 => ?_) (fun q5 => ?_)
    · skip
      refine x_iconst (v := 0) C d_Ru_giveRow_12 (by decide) ?_
      refine x_iret C d_Ru_giveRow_13 ?_
      first | exact ⟨g', kp1, frd', hE', Or.inl ⟨rfl, hbad, i', j', hi', hj', fU'⟩⟩ | exact ⟨g', kp1, frd', hE', Or.inr ⟨rfl, i', j', hi', hj', hbh, hbad, hG, hg', fU'⟩⟩
    · skip
      exact absurd q5 (by decide)
  · skip
    refine x_if_eq (tgt := 12) C d_Ru_giveRow_5 rfl (fun q5 => ?_) (fun q5 => ?_)
    · skip
      exact absurd q5 (by decide)
    · skip
      refine x_iconst (v := 1) C d_Ru_giveRow_8 (by decide) ?_
      refine x_goto (tgt := 13) C d_Ru_giveRow_9 rfl ?_
      refine x_iret C d_Ru_giveRow_13 ?_
      first | exact ⟨g', kp1, frd', hE', Or.inl ⟨rfl, hbad, i', j', hi', hj', fU'⟩⟩ | exact ⟨g', kp1, frd', hE', Or.inr ⟨rfl, i', j', hi', hj', hbh, hbad, hG, hg', fU'⟩⟩
set_option maxRecDepth 20000 in
set_option maxHeartbeats 1000000 in
theorem m_Ru_giveTotal {V : xV} {h : xH} {U rd S nb pk cd B ce co sr : Nat} {vb ls se fa nc : Int32} {np kc t1 t2 n2 : Nat} {f c s g : Nat → Int32} {po cp : Nat → Option Nat} {pick : Nat → Int32} {cf : Nat → tCd} {SS : Nat → Nat} (fS : h S = some (oSt vb ls (nI t1) se fa nc nb (nI np) pk (nI kc) cd)) (fpk : h pk = some (xR V 2 12 po)) (fcd : h cd = some (xR V 3 8 cp)) (hnp : np ≤ 12) (hkc : kc ≤ 8) (pO : pOps h po np pick) (pC : pCds h cp kc cf) (pT : pTa V h B ce co sr f c s) (hS : pS s SS) (ht1 : t1 < 10) (h2 : (se = -1 ∧ n2 = 1) ∨ (se = nI t2 ∧ t2 < 10 ∧ n2 = SS (t2 + 1) - SS t2)) (frd : h rd = some (xI V 16 g)) (hin : ∀ j, j < kc → cdIn (cf j)) {on en : Int32} {tt : Int64} {gv : Nat} (fU : h U = some (oRu (.ref S) (nI gv) on en 0 0 tt rd)) (hgv : gv < 2 ^ 31) (hsum : ls = 5 ∨ (0 < np ∧ vp_in (pick 0) 16)) : xM V y_Ru_giveTotal b_Ru_giveTotal 3 (some .int) 5 [.ref U, .ref B] h 0 0 (fun v h' => (0 < gv ∧ v = some (.int 0) ∧ h' = h) ∨ (gv = 0 ∧ v = some (.int 1) ∧ ∃ g' fp' sp', xKeep [U, rd] h h' ∧ h' rd = some (xI V 16 g') ∧ rdE se g' g ∧ h' U = some (oRu (.ref S) (nI gv) on en fp' sp' (sumUp (fun a b => if (fun a b => cdsVal kc cf (rdF f g ((SS t1 + plc fa (SS (t1 + 1) - SS t1) a) * 6) (sec se fa (SS t2) n2 b))) a b = true then (fun a b => if ls = 5 then (1 : Int64) else (opVal 2 (pick 0) (rdF f g ((SS t1 + plc fa (SS (t1 + 1) - SS t1) a) * 6) (sec se fa (SS t2) n2 b))).toInt64) a b else 0) n2 (SS (t1 + 1) - SS t1) 0) rd))) := by
  refine xM_of false (by decide) (fun h => nomatch h) (Nat.le_of_ble_eq_true rfl) (fun K C => ?_)
  show K 0 0 h 0 [(0, .ref U), (1, .ref B)] []
  have kp : xKeep [U, rd] h h := xKeep.rf
  obtain ⟨fB, fce, fco, fsr⟩ := pT
  have fU0 := fU
  have frd0 := frd
  have n_S : S ∉ [U, rd] := nm_c (x_ne fS fU (by simp)) (nm_c (x_ne fS frd (by simp)) nm_n)
  have n_pk : pk ∉ [U, rd] := nm_c (x_ne fpk fU (by simp)) (nm_c (x_ne fpk frd (by simp)) nm_n)
  have n_cd : cd ∉ [U, rd] := nm_c (x_ne fcd fU (by simp)) (nm_c (x_ne fcd frd (by simp)) nm_n)
  have n_B : B ∉ [U, rd] := nm_c (x_ne fB fU (by simp)) (nm_c (x_ne fB frd (by simp)) nm_n)
  have n_ce : ce ∉ [U, rd] := nm_c (x_ne fce fU (by simp)) (nm_c (x_ne fce frd (by simp)) nm_n)
  have n_co : co ∉ [U, rd] := nm_c (x_ne fco fU (by simp)) (nm_c (x_ne fco frd (by simp)) nm_n)
  have n_sr : sr ∉ [U, rd] := nm_c (x_ne fsr fU (by simp)) (nm_c (x_ne fsr frd (by simp)) nm_n)
  have hs1 := hS.1 t1 (by omega)
  have hl1 := hS.le (t1 + 1) (by omega)
  have hm1 := hS.2.1 t1 ht1
  have fSo := fS
  have fpko := fpk
  have fcdo := fcd
  have fBo := fB
  have fceo := fce
  have fcoo := fco
  have fsro := fsr
  have pOo := pO
  have pCo := pC
  have hn2 : n2 ≤ 400 := by rcases h2 with z | z; omega; have := hS.le (t2 + 1) (by omega); omega
  have hgo : True := trivial
  have loop : ∀ m : Nat, ∀ (k i1 j1 : Nat) (h1 : xH) (g1 : Nat → Int32), 160000 - k < m → k ≤ 160000 → i1 ≤ (SS (t1 + 1) - SS t1) → j1 ≤ n2 → k ≤ i1 * n2 + j1 → (i1 < (SS (t1 + 1) - SS t1) ∨ (i1 = 0 ∧ j1 = 0)) → gv = 0 → h1 U = some (oRu (.ref S) (nI gv) on en (nI i1) (nI j1) (sumUp (fun a b => if (fun a b => cdsVal kc cf (rdF f g ((SS t1 + plc fa (SS (t1 + 1) - SS t1) a) * 6) (sec se fa (SS t2) n2 b))) a b = true then (fun a b => if ls = 5 then (1 : Int64) else (opVal 2 (pick 0) (rdF f g ((SS t1 + plc fa (SS (t1 + 1) - SS t1) a) * 6) (sec se fa (SS t2) n2 b))).toInt64) a b else 0) n2 i1 j1) rd) → h1 rd = some (xI V 16 g1) → rdE se g1 g → xKeep [U, rd] h h1 → K 0 0 h1 16 [(2, .int (nI k)), (0, .ref U), (1, .ref B)] [] := by
    intro m
    induction m with
    | zero => intro k i1 j1 h1 g1 hm hk hi1 hj1 hpos hz hg0 fU frd hE kp; omega
    | succ m ih =>
      intro k i1 j1 h1 g1 hm hk hi1 hj1 hpos hz hg0 fU frd hE kp
      have fS := kp.get fS n_S
      have fpk := kp.get fpk n_pk
      have fcd := kp.get fcd n_cd
      have fB := kp.get fB n_B
      have fce := kp.get fce n_ce
      have fco := kp.get fco n_co
      have fsr := kp.get fsr n_sr
      have pO := pO.keepC kp (no_c fU0 rfl (no_c frd0 rfl no_n))
      have pC := pC.keepC kp (no_c fU0 rfl (no_c frd0 rfl no_n))
      refine x_iload_n C d_Ru_giveTotal_16 rfl rfl ?_
      refine x_ldc C q_Ru_99 d_Ru_giveTotal_17 ?_
      refine x_icmp_ge (tgt := 77) C d_Ru_giveTotal_19 rfl (fun q19 => ?_) (fun q19 => ?_)
      · skip
        have hk6 := nge_of (b := 160000) q19 (by decide)
        refine x_iconst (v := 1) C d_Ru_giveTotal_77 (by decide) ?_
        refine x_iret C d_Ru_giveTotal_78 ?_
        have hsA : sumUp (fun a b => if (fun a b => cdsVal kc cf (rdF f g ((SS t1 + plc fa (SS (t1 + 1) - SS t1) a) * 6) (sec se fa (SS t2) n2 b))) a b = true then (fun a b => if ls = 5 then (1 : Int64) else (opVal 2 (pick 0) (rdF f g ((SS t1 + plc fa (SS (t1 + 1) - SS t1) a) * 6) (sec se fa (SS t2) n2 b))).toInt64) a b else 0) n2 (SS (t1 + 1) - SS t1) 0 = sumUp (fun a b => if (fun a b => cdsVal kc cf (rdF f g ((SS t1 + plc fa (SS (t1 + 1) - SS t1) a) * 6) (sec se fa (SS t2) n2 b))) a b = true then (fun a b => if ls = 5 then (1 : Int64) else (opVal 2 (pick 0) (rdF f g ((SS t1 + plc fa (SS (t1 + 1) - SS t1) a) * 6) (sec se fa (SS t2) n2 b))).toInt64) a b else 0) n2 i1 j1 := by
          have hz1 : i1 < (SS (t1 + 1) - SS t1) := by rcases hz with y | y; exact y; rw [y.1, y.2] at hpos; omega
          rcases pos_end (n1 := (SS (t1 + 1) - SS t1)) (by omega) hn2 hi1 hj1 (by omega) with y | y
          · omega
          · rw [y.1, sumUp_line, show j1 = n2 by omega]
        exact Or.inr ⟨hg0, rfl, g1, nI i1, nI j1, kp, frd, hE, by rw [fU, hsA]⟩
      · skip
        have hk6 := nlt_of (b := 160000) q19 (by decide) (by omega)
        refine x_aload_n C d_Ru_giveTotal_22 rfl rfl ?_
        refine x_aload_n C d_Ru_giveTotal_23 rfl rfl ?_
        refine x_callV C l_Ru_91 v_Ru_findRow d_Ru_giveTotal_24 (m_Ru_findRow fS fpk fcd hnp hkc pO pC ⟨fB, fce, fco, fsr⟩ hS ht1 h2 frd hin fU hi1 hj1) fU rfl (by rfl) (by rfl) (by decide) (by decide) (Nat.le_of_ble_eq_true rfl) ?_
        rintro v1 h1 ⟨g', kp1, frd', hE', ⟨rfl, hbad, i', j', hi', hj', fU'⟩ | ⟨rfl, i', j', hi', hj', hbh, hbad, hG, hg', fU'⟩⟩
        · skip
          have pO := pO.keepC kp1 (no_c fU rfl (no_c frd rfl no_n))
          have pC := pC.keepC kp1 (no_c fU rfl (no_c frd rfl no_n))
          have fS := kp1.get fS (nm_c (by first | assumption | exact Ne.symm (by assumption) | exact x_ne fS fU (by simp)) (nm_c (by first | assumption | exact Ne.symm (by assumption) | exact x_ne fS frd (by simp)) nm_n))
          have fpk := kp1.get fpk (nm_c (by first | assumption | exact Ne.symm (by assumption) | exact x_ne fpk fU (by simp)) (nm_c (by first | assumption | exact Ne.symm (by assumption) | exact x_ne fpk frd (by simp)) nm_n))
          have fcd := kp1.get fcd (nm_c (by first | assumption | exact Ne.symm (by assumption) | exact x_ne fcd fU (by simp)) (nm_c (by first | assumption | exact Ne.symm (by assumption) | exact x_ne fcd frd (by simp)) nm_n))
          have fB := kp1.get fB (nm_c (by first | assumption | exact Ne.symm (by assumption) | exact x_ne fB fU (by simp)) (nm_c (by first | assumption | exact Ne.symm (by assumption) | exact x_ne fB frd (by simp)) nm_n))
          have fce := kp1.get fce (nm_c (by first | assumption | exact Ne.symm (by assumption) | exact x_ne fce fU (by simp)) (nm_c (by first | assumption | exact Ne.symm (by assumption) | exact x_ne fce frd (by simp)) nm_n))
          have fco := kp1.get fco (nm_c (by first | assumption | exact Ne.symm (by assumption) | exact x_ne fco fU (by simp)) (nm_c (by first | assumption | exact Ne.symm (by assumption) | exact x_ne fco frd (by simp)) nm_n))
          have fsr := kp1.get fsr (nm_c (by first | assumption | exact Ne.symm (by assumption) | exact x_ne fsr fU (by simp)) (nm_c (by first | assumption | exact Ne.symm (by assumption) | exact x_ne fsr frd (by simp)) nm_n))
          have kp := kp.call kp1 (kc_c (Or.inl (by simp)) (kc_c (Or.inl (by simp)) kc_n))
          have fU := fU'
          have frd := frd'
          rw [gd_base (fun a => ((SS t1 + plc fa (SS (t1 + 1) - SS t1) a) * 6)) hE] at hbad
          have hsB := sumUp_bad (val := (fun a b => if ls = 5 then (1 : Int64) else (opVal 2 (pick 0) (rdF f g ((SS t1 + plc fa (SS (t1 + 1) - SS t1) a) * 6) (sec se fa (SS t2) n2 b))).toInt64)) hj1 ((SS (t1 + 1) - SS t1) - i1) (SS (t1 + 1) - SS t1) 0 (by omega) (Nat.le_refl _) (by omega) (fun _ => Or.inl rfl) (fun z => by omega) hbad (fun z1 z2 => by omega)
          refine x_if_eq (tgt := 77) C d_Ru_giveTotal_27 rfl (fun q27 => ?_) (fun q27 => ?_)
          · skip
            refine x_iconst (v := 1) C d_Ru_giveTotal_77 (by decide) ?_
            refine x_iret C d_Ru_giveTotal_78 ?_
            exact Or.inr ⟨hg0, rfl, g', nI i', nI j', kp, frd, hE'.tr hE, by rw [fU, hsB]⟩
          · skip
            exact absurd q27 (by decide)
        · skip
          have pO := pO.keepC kp1 (no_c fU rfl (no_c frd rfl no_n))
          have pC := pC.keepC kp1 (no_c fU rfl (no_c frd rfl no_n))
          have fS := kp1.get fS (nm_c (by first | assumption | exact Ne.symm (by assumption) | exact x_ne fS fU (by simp)) (nm_c (by first | assumption | exact Ne.symm (by assumption) | exact x_ne fS frd (by simp)) nm_n))
          have fpk := kp1.get fpk (nm_c (by first | assumption | exact Ne.symm (by assumption) | exact x_ne fpk fU (by simp)) (nm_c (by first | assumption | exact Ne.symm (by assumption) | exact x_ne fpk frd (by simp)) nm_n))
          have fcd := kp1.get fcd (nm_c (by first | assumption | exact Ne.symm (by assumption) | exact x_ne fcd fU (by simp)) (nm_c (by first | assumption | exact Ne.symm (by assumption) | exact x_ne fcd frd (by simp)) nm_n))
          have fB := kp1.get fB (nm_c (by first | assumption | exact Ne.symm (by assumption) | exact x_ne fB fU (by simp)) (nm_c (by first | assumption | exact Ne.symm (by assumption) | exact x_ne fB frd (by simp)) nm_n))
          have fce := kp1.get fce (nm_c (by first | assumption | exact Ne.symm (by assumption) | exact x_ne fce fU (by simp)) (nm_c (by first | assumption | exact Ne.symm (by assumption) | exact x_ne fce frd (by simp)) nm_n))
          have fco := kp1.get fco (nm_c (by first | assumption | exact Ne.symm (by assumption) | exact x_ne fco fU (by simp)) (nm_c (by first | assumption | exact Ne.symm (by assumption) | exact x_ne fco frd (by simp)) nm_n))
          have fsr := kp1.get fsr (nm_c (by first | assumption | exact Ne.symm (by assumption) | exact x_ne fsr fU (by simp)) (nm_c (by first | assumption | exact Ne.symm (by assumption) | exact x_ne fsr frd (by simp)) nm_n))
          have kp := kp.call kp1 (kc_c (Or.inl (by simp)) (kc_c (Or.inl (by simp)) kc_n))
          have fU := fU'
          have frd := frd'
          rw [gd_base (fun a => ((SS t1 + plc fa (SS (t1 + 1) - SS t1) a) * 6)) hE] at hbad hG
          rw [rdF_base hE] at hg'
          have hsB := sumUp_bad (val := (fun a b => if ls = 5 then (1 : Int64) else (opVal 2 (pick 0) (rdF f g ((SS t1 + plc fa (SS (t1 + 1) - SS t1) a) * 6) (sec se fa (SS t2) n2 b))).toInt64)) hj1 (i' - i1) i' j' (by unfold bhd at hbh; omega) (by omega) (by omega) (fun z => by omega) (fun z => by unfold bhd at hbh; omega) (fun a b h1 h2 h3 h4 => hbad a b h1 h2 h3 h4) (fun z1 z2 => by omega)
          refine x_if_eq (tgt := 77) C d_Ru_giveTotal_27 rfl (fun q27 => ?_) (fun q27 => ?_)
          · skip
            exact absurd q27 (by decide)
          · skip
            refine x_aload_n C d_Ru_giveTotal_30 rfl rfl ?_
            refine x_dup C d_Ru_giveTotal_31 rfl ?_
            refine x_get C k_Ru f_Ru_95 d_Ru_giveTotal_32 fU (by rfl) ?_
            refine x_aload_n C d_Ru_giveTotal_35 rfl rfl ?_
            refine x_get C k_Ru f_Ru_15 d_Ru_giveTotal_36 fU (by rfl) ?_
            refine x_get C k_St f_Ru_100 d_Ru_giveTotal_39 fS (by rfl) ?_
            refine x_iconst (v := 5) C d_Ru_giveTotal_42 (by decide) ?_
            refine x_icmp_ne (tgt := 50) C d_Ru_giveTotal_43 rfl (fun q43 => ?_) (fun q43 => ?_)
            · skip
              obtain ⟨hp0, hpi⟩ := hsum.resolve_left q43
              obtain ⟨o, ho, fo⟩ := pO 0 hp0
              refine x_aload_n C d_Ru_giveTotal_50 rfl rfl ?_
              refine x_get C k_Ru f_Ru_15 d_Ru_giveTotal_51 fU (by rfl) ?_
              refine x_get C k_St f_Ru_103 d_Ru_giveTotal_54 fS (by rfl) ?_
              refine x_iconst (v := 0) C d_Ru_giveTotal_57 (by decide) ?_
              refine x_aald (t := 2) C rfl d_Ru_giveTotal_58 fpk (vp_in_nI (n := 0) (by decide) (by decide)) ?_
              rw [sb_cl0, ho]
              refine x_aload_n C d_Ru_giveTotal_59 rfl rfl ?_
              refine x_get C k_Ru f_Ru_9 d_Ru_giveTotal_60 fU (by rfl) ?_
              refine x_callV C l_Ru_107 v_Op_value d_Ru_giveTotal_63 (m_Op_value fo frd (Or.inr hpi)) (by assumption) rfl (by rfl) (by rfl) (by decide) (by decide) (Nat.le_of_ble_eq_true rfl) ?_
              rintro v9 h9 ⟨rfl, rfl⟩
              refine x_i2l C d_Ru_giveTotal_66 ?_
              refine x_ladd C d_Ru_giveTotal_67 ?_
              refine x_put (fs' := [_, _, _, _, _, _, _, _]) C k_Ru f_Ru_95 d_Ru_giveTotal_68 fU (by rfl) (by rfl) (by rfl) (Nat.le_of_ble_eq_true rfl) (by rfl) (fun h2 u2 => ?_)
              have pO := pO.keepU u2 fU rfl
              have pC := pC.keepU u2 fU rfl
              have frd := xUp_ne u2 frd (by first | assumption | exact Ne.symm (by assumption) | exact x_ne frd fU (by simp))
              have fS := xUp_ne u2 fS (by first | assumption | exact Ne.symm (by assumption) | exact x_ne fS fU (by simp))
              have fpk := xUp_ne u2 fpk (by first | assumption | exact Ne.symm (by assumption) | exact x_ne fpk fU (by simp))
              have fcd := xUp_ne u2 fcd (by first | assumption | exact Ne.symm (by assumption) | exact x_ne fcd fU (by simp))
              have fB := xUp_ne u2 fB (by first | assumption | exact Ne.symm (by assumption) | exact x_ne fB fU (by simp))
              have fce := xUp_ne u2 fce (by first | assumption | exact Ne.symm (by assumption) | exact x_ne fce fU (by simp))
              have fco := xUp_ne u2 fco (by first | assumption | exact Ne.symm (by assumption) | exact x_ne fco fU (by simp))
              have fsr := xUp_ne u2 fsr (by first | assumption | exact Ne.symm (by assumption) | exact x_ne fsr fU (by simp))
              have fU := xUp_at u2
              have kp := kp.up u2 (by simp)
              refine x_iinc (v := nI (k + 1)) (k0 := 0) (lv' := [(2, _), (0, _), (1, _)]) C d_Ru_giveTotal_71 (by rfl) (nI_1 k) (by decide) (by rfl) ?_
              refine x_goto (tgt := 16) C d_Ru_giveTotal_74 rfl ?_
              refine ih (k + 1) i' (j' + 1) _ _ (by omega) (by omega) (by omega) (by omega) (pos_le hj1 hbh hpos) (Or.inl hi') hg0 ?_ frd (hE'.tr hE) kp
              have hw : (fun a b => if (fun a b => cdsVal kc cf (rdF f g ((SS t1 + plc fa (SS (t1 + 1) - SS t1) a) * 6) (sec se fa (SS t2) n2 b))) a b = true then (fun a b => if ls = 5 then (1 : Int64) else (opVal 2 (pick 0) (rdF f g ((SS t1 + plc fa (SS (t1 + 1) - SS t1) a) * 6) (sec se fa (SS t2) n2 b))).toInt64) a b else 0) i' j' = (if ls = 5 then (1 : Int64) else (opVal 2 (pick 0) g').toInt64) := by
                show (if (fun a b => cdsVal kc cf (rdF f g ((SS t1 + plc fa (SS (t1 + 1) - SS t1) a) * 6) (sec se fa (SS t2) n2 b))) i' j' = true then _ else (0 : Int64)) = _
                rw [if_pos hG, hg']
              have hs2 : sumUp (fun a b => if (fun a b => cdsVal kc cf (rdF f g ((SS t1 + plc fa (SS (t1 + 1) - SS t1) a) * 6) (sec se fa (SS t2) n2 b))) a b = true then (fun a b => if ls = 5 then (1 : Int64) else (opVal 2 (pick 0) (rdF f g ((SS t1 + plc fa (SS (t1 + 1) - SS t1) a) * 6) (sec se fa (SS t2) n2 b))).toInt64) a b else 0) n2 i' (j' + 1) = sumUp (fun a b => if (fun a b => cdsVal kc cf (rdF f g ((SS t1 + plc fa (SS (t1 + 1) - SS t1) a) * 6) (sec se fa (SS t2) n2 b))) a b = true then (fun a b => if ls = 5 then (1 : Int64) else (opVal 2 (pick 0) (rdF f g ((SS t1 + plc fa (SS (t1 + 1) - SS t1) a) * 6) (sec se fa (SS t2) n2 b))).toInt64) a b else 0) n2 i1 j1 + (if ls = 5 then (1 : Int64) else (opVal 2 (pick 0) g').toInt64) := by
                refine sumUp_next.trans ?_
                rw [hsB]
                exact congrArg (sumUp (fun a b => if (fun a b => cdsVal kc cf (rdF f g ((SS t1 + plc fa (SS (t1 + 1) - SS t1) a) * 6) (sec se fa (SS t2) n2 b))) a b = true then (fun a b => if ls = 5 then (1 : Int64) else (opVal 2 (pick 0) (rdF f g ((SS t1 + plc fa (SS (t1 + 1) - SS t1) a) * 6) (sec se fa (SS t2) n2 b))).toInt64) a b else 0) n2 i1 j1 + ·) hw
              rw [fU, hs2]
              first | rw [if_pos q43] | rw [if_neg q43]
            · skip
              refine x_lconst (v := 1) C d_Ru_giveTotal_46 (by decide) ?_
              refine x_goto (tgt := 67) C d_Ru_giveTotal_47 rfl ?_
              refine x_ladd C d_Ru_giveTotal_67 ?_
              refine x_put (fs' := [_, _, _, _, _, _, _, _]) C k_Ru f_Ru_95 d_Ru_giveTotal_68 fU (by rfl) (by rfl) (by rfl) (Nat.le_of_ble_eq_true rfl) (by rfl) (fun h3 u3 => ?_)
              have pO := pO.keepU u3 fU rfl
              have pC := pC.keepU u3 fU rfl
              have frd := xUp_ne u3 frd (by first | assumption | exact Ne.symm (by assumption) | exact x_ne frd fU (by simp))
              have fS := xUp_ne u3 fS (by first | assumption | exact Ne.symm (by assumption) | exact x_ne fS fU (by simp))
              have fpk := xUp_ne u3 fpk (by first | assumption | exact Ne.symm (by assumption) | exact x_ne fpk fU (by simp))
              have fcd := xUp_ne u3 fcd (by first | assumption | exact Ne.symm (by assumption) | exact x_ne fcd fU (by simp))
              have fB := xUp_ne u3 fB (by first | assumption | exact Ne.symm (by assumption) | exact x_ne fB fU (by simp))
              have fce := xUp_ne u3 fce (by first | assumption | exact Ne.symm (by assumption) | exact x_ne fce fU (by simp))
              have fco := xUp_ne u3 fco (by first | assumption | exact Ne.symm (by assumption) | exact x_ne fco fU (by simp))
              have fsr := xUp_ne u3 fsr (by first | assumption | exact Ne.symm (by assumption) | exact x_ne fsr fU (by simp))
              have fU := xUp_at u3
              have kp := kp.up u3 (by simp)
              refine x_iinc (v := nI (k + 1)) (k0 := 0) (lv' := [(2, _), (0, _), (1, _)]) C d_Ru_giveTotal_71 (by rfl) (nI_1 k) (by decide) (by rfl) ?_
              refine x_goto (tgt := 16) C d_Ru_giveTotal_74 rfl ?_
              refine ih (k + 1) i' (j' + 1) _ _ (by omega) (by omega) (by omega) (by omega) (pos_le hj1 hbh hpos) (Or.inl hi') hg0 ?_ frd (hE'.tr hE) kp
              have hw : (fun a b => if (fun a b => cdsVal kc cf (rdF f g ((SS t1 + plc fa (SS (t1 + 1) - SS t1) a) * 6) (sec se fa (SS t2) n2 b))) a b = true then (fun a b => if ls = 5 then (1 : Int64) else (opVal 2 (pick 0) (rdF f g ((SS t1 + plc fa (SS (t1 + 1) - SS t1) a) * 6) (sec se fa (SS t2) n2 b))).toInt64) a b else 0) i' j' = (if ls = 5 then (1 : Int64) else (opVal 2 (pick 0) g').toInt64) := by
                show (if (fun a b => cdsVal kc cf (rdF f g ((SS t1 + plc fa (SS (t1 + 1) - SS t1) a) * 6) (sec se fa (SS t2) n2 b))) i' j' = true then _ else (0 : Int64)) = _
                rw [if_pos hG, hg']
              have hs2 : sumUp (fun a b => if (fun a b => cdsVal kc cf (rdF f g ((SS t1 + plc fa (SS (t1 + 1) - SS t1) a) * 6) (sec se fa (SS t2) n2 b))) a b = true then (fun a b => if ls = 5 then (1 : Int64) else (opVal 2 (pick 0) (rdF f g ((SS t1 + plc fa (SS (t1 + 1) - SS t1) a) * 6) (sec se fa (SS t2) n2 b))).toInt64) a b else 0) n2 i' (j' + 1) = sumUp (fun a b => if (fun a b => cdsVal kc cf (rdF f g ((SS t1 + plc fa (SS (t1 + 1) - SS t1) a) * 6) (sec se fa (SS t2) n2 b))) a b = true then (fun a b => if ls = 5 then (1 : Int64) else (opVal 2 (pick 0) (rdF f g ((SS t1 + plc fa (SS (t1 + 1) - SS t1) a) * 6) (sec se fa (SS t2) n2 b))).toInt64) a b else 0) n2 i1 j1 + (if ls = 5 then (1 : Int64) else (opVal 2 (pick 0) g').toInt64) := by
                refine sumUp_next.trans ?_
                rw [hsB]
                exact congrArg (sumUp (fun a b => if (fun a b => cdsVal kc cf (rdF f g ((SS t1 + plc fa (SS (t1 + 1) - SS t1) a) * 6) (sec se fa (SS t2) n2 b))) a b = true then (fun a b => if ls = 5 then (1 : Int64) else (opVal 2 (pick 0) (rdF f g ((SS t1 + plc fa (SS (t1 + 1) - SS t1) a) * 6) (sec se fa (SS t2) n2 b))).toInt64) a b else 0) n2 i1 j1 + ·) hw
              rw [fU, hs2]
              first | rw [if_pos q43] | rw [if_neg q43]
  refine x_aload_n C d_Ru_giveTotal_0 rfl rfl ?_
  refine x_get C k_Ru f_Ru_19 d_Ru_giveTotal_1 fU (by rfl) ?_
  refine x_if_le (tgt := 9) C d_Ru_giveTotal_4 rfl (fun q4 => ?_) (fun q4 => ?_)
  · skip
    have hg0 : gv = 0 := by rcases Nat.eq_zero_or_pos gv with z | z; exact z; exact absurd q4 (nI_nle z hgv)
    refine x_aload_n C d_Ru_giveTotal_9 rfl rfl ?_
    refine x_lconst (v := 0) C d_Ru_giveTotal_10 (by decide) ?_
    refine x_put (fs' := [_, _, _, _, _, _, _, _]) C k_Ru f_Ru_95 d_Ru_giveTotal_11 fU (by rfl) (by rfl) (by rfl) (Nat.le_of_ble_eq_true rfl) (by rfl) (fun h4 u4 => ?_)
    have pO := pO.keepU u4 fU rfl
    have pC := pC.keepU u4 fU rfl
    have frd := xUp_ne u4 frd (by first | assumption | exact Ne.symm (by assumption) | exact x_ne frd fU (by simp))
    have fS := xUp_ne u4 fS (by first | assumption | exact Ne.symm (by assumption) | exact x_ne fS fU (by simp))
    have fpk := xUp_ne u4 fpk (by first | assumption | exact Ne.symm (by assumption) | exact x_ne fpk fU (by simp))
    have fcd := xUp_ne u4 fcd (by first | assumption | exact Ne.symm (by assumption) | exact x_ne fcd fU (by simp))
    have fB := xUp_ne u4 fB (by first | assumption | exact Ne.symm (by assumption) | exact x_ne fB fU (by simp))
    have fce := xUp_ne u4 fce (by first | assumption | exact Ne.symm (by assumption) | exact x_ne fce fU (by simp))
    have fco := xUp_ne u4 fco (by first | assumption | exact Ne.symm (by assumption) | exact x_ne fco fU (by simp))
    have fsr := xUp_ne u4 fsr (by first | assumption | exact Ne.symm (by assumption) | exact x_ne fsr fU (by simp))
    have fU := xUp_at u4
    have kp := kp.up u4 (by simp)
    refine x_iconst (v := 0) C d_Ru_giveTotal_14 (by decide) ?_
    refine x_istore_n (lv' := [(2, _), (0, _), (1, _)]) C d_Ru_giveTotal_15 rfl (by decide) (by rfl) ?_
    exact loop 160001 0 0 0 _ g (by omega) (by omega) (by omega) (by omega) (by omega) (Or.inr ⟨rfl, rfl⟩) hg0 fU frd rdE.rf kp
  · skip
    have hg0 : 0 < gv := by rcases Nat.eq_zero_or_pos gv with z | z; exact absurd (by rw [z]; decide) q4; exact z
    refine x_iconst (v := 0) C d_Ru_giveTotal_7 (by decide) ?_
    refine x_iret C d_Ru_giveTotal_8 ?_
    exact Or.inl ⟨hg0, rfl, rfl⟩
set_option maxRecDepth 20000 in
set_option maxHeartbeats 1000000 in
theorem m_Ru_deleteRows {V : xV} {h : xH} {U rd S nb pk cd B ce co sr : Nat} {vb ls se fa nc : Int32} {np kc t1 : Nat} {f c s g : Nat → Int32} {po cp : Nat → Option Nat} {pick : Nat → Int32} {cf : Nat → tCd} {SS : Nat → Nat} (fS : h S = some (oSt vb ls (nI t1) se fa nc nb (nI np) pk (nI kc) cd)) (fpk : h pk = some (xR V 2 12 po)) (fcd : h cd = some (xR V 3 8 cp)) (hnp : np ≤ 12) (hkc : kc ≤ 8) (pO : pOps h po np pick) (pC : pCds h cp kc cf) (pT : pTa V h B ce co sr f c s) (hS : pS s SS) (ht1 : t1 < 10) (frd : h rd = some (xI V 16 g)) (hin : ∀ j, j < kc → cdIn (cf j)) {gv on en fp sp : Int32} {tt : Int64} (fU : h U = some (oRu (.ref S) gv on en fp sp tt rd)) : xM V y_Ru_deleteRows b_Ru_deleteRows 3 none 4 [.ref U, .ref B] h 0 0 (fun v h' => v = none ∧ ∃ f' s' SS' g', pTa V h' B ce co sr f' c s' ∧ pS s' SS' ∧ SS' 0 = SS 0 ∧ tbl f' SS' t1 = (tbl f SS t1).filter (fun r => !cdsVal kc cf (mix r g)) ∧ (∀ t', t' < 10 → t' ≠ t1 → tbl f' SS' t' = tbl f SS t') ∧ h' rd = some (xI V 16 g') ∧ rdE (-1) g' g ∧ xKeep [ce, sr, rd] h h') := by
  refine xM_of false (by decide) (fun h => nomatch h) (Nat.le_of_ble_eq_true rfl) (fun K C => ?_)
  show K 0 0 h 0 [(0, .ref U), (1, .ref B)] []
  have kp : xKeep [ce, sr, rd] h h := xKeep.rf
  obtain ⟨fB, fce, fco, fsr⟩ := pT
  have fce0 := fce
  have fsr0 := fsr
  have frd0 := frd
  have n_U : U ∉ [ce, sr, rd] := nm_c (x_ne fU fce (by simp)) (nm_c (x_ne fU fsr (by simp)) (nm_c (x_ne fU frd (by simp)) nm_n))
  have n_S : S ∉ [ce, sr, rd] := nm_c (x_ne fS fce (by simp)) (nm_c (x_ne fS fsr (by simp)) (nm_c (x_ne fS frd (by simp)) nm_n))
  have n_pk : pk ∉ [ce, sr, rd] := nm_c (x_ne fpk fce (by simp)) (nm_c (x_ne fpk fsr (by simp)) (nm_c (x_ne fpk frd (by simp)) nm_n))
  have n_cd : cd ∉ [ce, sr, rd] := nm_c (x_ne fcd fce (by simp)) (nm_c (x_ne fcd fsr (by simp)) (nm_c (x_ne fcd frd (by simp)) nm_n))
  have n_B : B ∉ [ce, sr, rd] := nm_c (x_ne fB fce (by simp)) (nm_c (x_ne fB fsr (by simp)) (nm_c (x_ne fB frd (by simp)) nm_n))
  have n_co : co ∉ [ce, sr, rd] := nm_c (x_ne fco fce (by simp)) (nm_c (x_ne fco fsr (by simp)) (nm_c (x_ne fco frd (by simp)) nm_n))
  have hL : ∃ L, L = tbl f SS t1 := ⟨_, rfl⟩
  obtain ⟨L, hL⟩ := hL
  have loop : ∀ m : Nat, ∀ (k : Nat) (h1 : xH) (f1 s1 : Nat → Int32) (SS1 : Nat → Nat) (g1 : Nat → Int32), k < m → k ≤ L.length → pTa V h1 B ce co sr f1 c s1 → pS s1 SS1 → SS1 0 = SS 0 → tbl f1 SS1 t1 = L.take k ++ (L.drop k).filter (fun r => !cdsVal kc cf (mix r g)) → (∀ t', t' < 10 → t' ≠ t1 → tbl f1 SS1 t' = tbl f SS t') → h1 rd = some (xI V 16 g1) → rdE (-1) g1 g → xKeep [ce, sr, rd] h h1 → K 0 0 h1 14 [(2, .int (nI k - 1)), (0, .ref U), (1, .ref B)] [] := by
    intro m
    induction m with
    | zero => intro k h1 f1 s1 SS1 g1 hm hkL pT1 hS1 hz0 htb hto frd hE kp; omega
    | succ m ih =>
      intro k h1 f1 s1 SS1 g1 hm hkL pT1 hS1 hz0 htb hto frd hE kp
      have hL4 : L.length ≤ 400 := by rw [hL, tbl_len]; have := hS.le (t1 + 1) (by omega); omega
      obtain ⟨-, fce, -, fsr⟩ := pT1
      have fU := kp.get fU n_U
      have fS := kp.get fS n_S
      have fpk := kp.get fpk n_pk
      have fcd := kp.get fcd n_cd
      have fB := kp.get fB n_B
      have fco := kp.get fco n_co
      have pO := pO.keepC kp (no_c fce0 rfl (no_c fsr0 rfl (no_c frd0 rfl no_n)))
      have pC := pC.keepC kp (no_c fce0 rfl (no_c fsr0 rfl (no_c frd0 rfl no_n)))
      refine x_iload_n C d_Ru_deleteRows_14 rfl rfl ?_
      refine x_if_lt (tgt := 67) C d_Ru_deleteRows_15 rfl (fun q15 => ?_) (fun q15 => ?_)
      · skip
        have hk0 : k = 0 := by
          rcases Nat.eq_zero_or_pos k with z | z
          · exact z
          · obtain ⟨k', rfl⟩ : ∃ k', k = k' + 1 := ⟨k - 1, by omega⟩
            rw [nI_pred] at q15
            exact absurd q15 (nI_pos (by omega))
        subst hk0
        refine x_vret C d_Ru_deleteRows_67 ?_
        exact ⟨rfl, f1, s1, SS1, g1, ⟨fB, fce, fco, fsr⟩, hS1, hz0, by rw [htb, hL]; simp, hto, frd, hE, kp⟩
      · skip
        obtain ⟨k', rfl⟩ : ∃ k', k = k' + 1 := by
          rcases Nat.eq_zero_or_pos k with z | z
          · rw [z] at q15; exact absurd (by decide) q15
          · exact ⟨k - 1, by omega⟩
        rw [nI_pred]
        obtain ⟨hkn, hrow⟩ := del_row htb (by omega)
        have hs1 := hS1.1 t1 (by omega)
        have hl1 := hS1.le (t1 + 1) (by omega)
        have hm1 := hS1.2.1 t1 ht1
        refine x_aload_n C d_Ru_deleteRows_18 rfl rfl ?_
        refine x_aload_n C d_Ru_deleteRows_19 rfl rfl ?_
        refine x_get C k_Ru f_Ru_15 d_Ru_deleteRows_20 fU (by rfl) ?_
        refine x_get C k_St f_Ru_41 d_Ru_deleteRows_23 fS (by rfl) ?_
        refine x_iload_n C d_Ru_deleteRows_26 rfl rfl ?_
        refine x_aload_n C d_Ru_deleteRows_27 rfl rfl ?_
        refine x_get C k_Ru f_Ru_9 d_Ru_deleteRows_28 fU (by rfl) ?_
        refine x_iconst (v := 0) C d_Ru_deleteRows_31 (by decide) ?_
        refine x_callV C l_Ru_80 v_Ta_read d_Ru_deleteRows_32 (m_Ta_read ⟨fB, fce, fco, fsr⟩ (t := t1) (p := nI k') (a := (SS1 t1 + k') * 6) (by omega) (by omega) (by rw [hs1, cell_eq]) frd (b := 0) (by decide)) fB rfl (by rfl) (by rfl) (by decide) (by decide) (Nat.le_of_ble_eq_true rfl) ?_
        rintro v1 h1 ⟨rfl, u1⟩
        have pO := pO.keepU u1 frd rfl
        have pC := pC.keepU u1 frd rfl
        have fU := xUp_ne u1 fU (by first | assumption | exact Ne.symm (by assumption) | exact x_ne fU frd (by simp))
        have fS := xUp_ne u1 fS (by first | assumption | exact Ne.symm (by assumption) | exact x_ne fS frd (by simp))
        have fpk := xUp_ne u1 fpk (by first | assumption | exact Ne.symm (by assumption) | exact x_ne fpk frd (by simp))
        have fcd := xUp_ne u1 fcd (by first | assumption | exact Ne.symm (by assumption) | exact x_ne fcd frd (by simp))
        have fB := xUp_ne u1 fB (by first | assumption | exact Ne.symm (by assumption) | exact x_ne fB frd (by simp))
        have fce := xUp_ne u1 fce (by first | assumption | exact Ne.symm (by assumption) | exact x_ne fce frd (by simp))
        have fco := xUp_ne u1 fco (by first | assumption | exact Ne.symm (by assumption) | exact x_ne fco frd (by simp))
        have fsr := xUp_ne u1 fsr (by first | assumption | exact Ne.symm (by assumption) | exact x_ne fsr frd (by simp))
        have frd := xUp_at u1
        have kp := kp.up u1 (by simp)
        have hmx := mix_eq (f := f1) (o := (SS1 t1 + k') * 6) hE
        refine x_aload_n C d_Ru_deleteRows_35 rfl rfl ?_
        refine x_get C k_Ru f_Ru_15 d_Ru_deleteRows_36 fU (by rfl) ?_
        refine x_aload_n C d_Ru_deleteRows_39 rfl rfl ?_
        refine x_get C k_Ru f_Ru_9 d_Ru_deleteRows_40 fU (by rfl) ?_
        refine x_callV C l_Ru_83 v_St_holds d_Ru_deleteRows_43 (m_St_holds fS fpk fcd hnp hkc pO pC frd hin) fS rfl (by rfl) (by rfl) (by decide) (by decide) (Nat.le_of_ble_eq_true rfl) ?_
        rintro v9 h9 ⟨rfl, rfl⟩
        rw [hmx]
        refine x_if_eq (tgt := 61) C d_Ru_deleteRows_46 rfl (fun q46 => ?_) (fun q46 => ?_)
        · skip
          replace q46 := bI_f q46
          have hqr : (fun r => !cdsVal kc cf (mix r g)) (row6 f1 ((SS1 t1 + k') * 6)) = true := by show (!_) = true; rw [q46]; rfl
          refine x_iinc (v := nI k' - 1) (k0 := 0) (lv' := [(2, _), (0, _), (1, _)]) C d_Ru_deleteRows_61 (by rfl) (by rw [show Int32.ofInt (-1) = -1 by decide]; exact (Int32.sub_eq_add_neg _ _).symm) (by decide) (by rfl) ?_
          refine x_goto (tgt := 14) C d_Ru_deleteRows_64 rfl ?_
          first | exact ih k' _ _ _ (decB SS1 t1) _ (by omega) (by omega) ⟨fB, fce, fco, fsr⟩ (hS1.dec ht1 hs2 (by omega)) (by unfold decB; rw [if_neg (by omega)]; exact hz0) (by rw [tbl_rem hS1 ht1 hkn, htb]; exact del_rem hrow hqr) (fun t' h1 h2 => (tbl_remO hS1 ht1 h1 h2 hkn).trans (hto t' h1 h2)) frd hE.one kp | exact ih k' _ _ _ SS1 _ (by omega) (by omega) ⟨fB, fce, fco, fsr⟩ hS1 hz0 (htb.trans (del_keep hrow hqr)) hto frd hE.one kp
        · skip
          replace q46 := bI_t q46
          have hqr : (fun r => !cdsVal kc cf (mix r g)) (row6 f1 ((SS1 t1 + k') * 6)) = false := by show (!_) = false; rw [q46]; rfl
          refine x_aload_n C d_Ru_deleteRows_49 rfl rfl ?_
          refine x_aload_n C d_Ru_deleteRows_50 rfl rfl ?_
          refine x_get C k_Ru f_Ru_15 d_Ru_deleteRows_51 fU (by rfl) ?_
          refine x_get C k_St f_Ru_41 d_Ru_deleteRows_54 fS (by rfl) ?_
          refine x_iload_n C d_Ru_deleteRows_57 rfl rfl ?_
          refine x_callV C l_Ru_87 v_Ta_remove d_Ru_deleteRows_58 (m_Ta_remove ⟨fB, fce, fco, fsr⟩ hS1 ht1 hkn) fB rfl (by rfl) (by rfl) (by decide) (by decide) (Nat.le_of_ble_eq_true rfl) ?_
          rintro v2 h2 ⟨rfl, s2, pT2, hs2, kp2⟩
          have pO := pO.keepC kp2 (no_c fce rfl (no_c fsr rfl no_n))
          have pC := pC.keepC kp2 (no_c fce rfl (no_c fsr rfl no_n))
          have fU := kp2.get fU (nm_c (by first | assumption | exact Ne.symm (by assumption) | exact x_ne fU fce (by simp)) (nm_c (by first | assumption | exact Ne.symm (by assumption) | exact x_ne fU fsr (by simp)) nm_n))
          have frd := kp2.get frd (nm_c (by first | assumption | exact Ne.symm (by assumption) | exact x_ne frd fce (by simp)) (nm_c (by first | assumption | exact Ne.symm (by assumption) | exact x_ne frd fsr (by simp)) nm_n))
          have fS := kp2.get fS (nm_c (by first | assumption | exact Ne.symm (by assumption) | exact x_ne fS fce (by simp)) (nm_c (by first | assumption | exact Ne.symm (by assumption) | exact x_ne fS fsr (by simp)) nm_n))
          have fpk := kp2.get fpk (nm_c (by first | assumption | exact Ne.symm (by assumption) | exact x_ne fpk fce (by simp)) (nm_c (by first | assumption | exact Ne.symm (by assumption) | exact x_ne fpk fsr (by simp)) nm_n))
          have fcd := kp2.get fcd (nm_c (by first | assumption | exact Ne.symm (by assumption) | exact x_ne fcd fce (by simp)) (nm_c (by first | assumption | exact Ne.symm (by assumption) | exact x_ne fcd fsr (by simp)) nm_n))
          have fB := kp2.get fB (nm_c (by first | assumption | exact Ne.symm (by assumption) | exact x_ne fB fce (by simp)) (nm_c (by first | assumption | exact Ne.symm (by assumption) | exact x_ne fB fsr (by simp)) nm_n))
          have fco := kp2.get fco (nm_c (by first | assumption | exact Ne.symm (by assumption) | exact x_ne fco fce (by simp)) (nm_c (by first | assumption | exact Ne.symm (by assumption) | exact x_ne fco fsr (by simp)) nm_n))
          have kp := kp.call kp2 (kc_c (Or.inl (by simp)) (kc_c (Or.inl (by simp)) kc_n))
          have fce := pT2.2.1
          have fsr := pT2.2.2.2
          refine x_iinc (v := nI k' - 1) (k0 := 0) (lv' := [(2, _), (0, _), (1, _)]) C d_Ru_deleteRows_61 (by rfl) (by rw [show Int32.ofInt (-1) = -1 by decide]; exact (Int32.sub_eq_add_neg _ _).symm) (by decide) (by rfl) ?_
          refine x_goto (tgt := 14) C d_Ru_deleteRows_64 rfl ?_
          first | exact ih k' _ _ _ (decB SS1 t1) _ (by omega) (by omega) ⟨fB, fce, fco, fsr⟩ (hS1.dec ht1 hs2 (by omega)) (by unfold decB; rw [if_neg (by omega)]; exact hz0) (by rw [tbl_rem hS1 ht1 hkn, htb]; exact del_rem hrow hqr) (fun t' h1 h2 => (tbl_remO hS1 ht1 h1 h2 hkn).trans (hto t' h1 h2)) frd hE.one kp | exact ih k' _ _ _ SS1 _ (by omega) (by omega) ⟨fB, fce, fco, fsr⟩ hS1 hz0 (htb.trans (del_keep hrow hqr)) hto frd hE.one kp
  refine x_aload_n C d_Ru_deleteRows_0 rfl rfl ?_
  refine x_aload_n C d_Ru_deleteRows_1 rfl rfl ?_
  refine x_get C k_Ru f_Ru_15 d_Ru_deleteRows_2 fU (by rfl) ?_
  refine x_get C k_St f_Ru_41 d_Ru_deleteRows_5 fS (by rfl) ?_
  refine x_callV C l_Ru_76 v_Ta_rowsOf d_Ru_deleteRows_8 (m_Ta_rowsOf ⟨fB, fce, fco, fsr⟩ (nI t1)) fB rfl (by rfl) (by rfl) (by decide) (by decide) (Nat.le_of_ble_eq_true rfl) ?_
  rintro v9 h9 ⟨rfl, rfl⟩
  rw [hS.row ht1]
  refine x_iconst (v := 1) C d_Ru_deleteRows_11 (by decide) ?_
  refine x_isub C d_Ru_deleteRows_12 ?_
  refine x_istore_n (lv' := [(2, _), (0, _), (1, _)]) C d_Ru_deleteRows_13 rfl (by decide) (by rfl) ?_
  exact loop (L.length + 1) (SS (t1 + 1) - SS t1) _ f s SS g (by rw [hL, tbl_len]; omega) (by rw [hL, tbl_len]; exact Nat.le_refl _) ⟨fB, fce, fco, fsr⟩ hS rfl (by rw [← hL, List.take_of_length_le (by rw [hL, tbl_len]; exact Nat.le_refl _), List.drop_of_length_le (by rw [hL, tbl_len]; exact Nat.le_refl _)]; simp) (fun _ _ _ => rfl) frd rdE.rf kp
set_option maxRecDepth 20000 in
set_option maxHeartbeats 1000000 in
theorem m_Ru_valueAt {V : xV} {h : xH} {U rd S nb pk cd np k : Nat} {vb ls fi se fa nc kc : Int32} {g : Nat → Int32} {po : Nat → Option Nat} {pick : Nat → Int32} {gv on en fp sp : Int32} {tt : Int64} (fU : h U = some (oRu (.ref S) gv on en fp sp tt rd)) (fS : h S = some (oSt vb ls fi se fa nc nb (nI np) pk kc cd)) (fpk : h pk = some (xR V 2 12 po)) (frd : h rd = some (xI V 16 g)) (pO : pOps h po np pick) (hnp : np ≤ 12) (hk : (ls = 5 ∨ ls = 6) ∨ (k < np ∧ vp_in (pick k) 16)) (hk2 : k < 2 ^ 31) : xM V y_Ru_valueAt b_Ru_valueAt 2 (some .long) 1 [.ref U, .int (nI k)] h 0 0 (fun v h' => h' = h ∧ v = some (.long (if ls = 5 ∨ ls = 6 then tt else (opVal 2 (pick k) g).toInt64))) := by
  refine xM_of false (by decide) (fun h => nomatch h) (Nat.le_of_ble_eq_true rfl) (fun K C => ?_)
  show K 0 0 h 0 [(0, .ref U), (1, .int (nI k))] []
  refine x_aload_n C d_Ru_valueAt_0 rfl rfl ?_
  refine x_get C k_Ru f_Ru_15 d_Ru_valueAt_1 fU (by rfl) ?_
  refine x_callV C l_Ru_61 v_St_hasTotal d_Ru_valueAt_4 (m_St_hasTotal fS) fS rfl (by rfl) (by rfl) (by decide) (by decide) (Nat.le_of_ble_eq_true rfl) ?_
  rintro v9 h9 ⟨rfl, rfl⟩
  refine x_if_eq (tgt := 17) C d_Ru_valueAt_7 rfl (fun q7 => ?_) (fun q7 => ?_)
  · skip
    replace q7 := bI_f q7
    have hls : ¬ (ls = 5 ∨ ls = 6) := by simpa using q7
    obtain ⟨hkn, hpi⟩ := hk.resolve_left hls
    obtain ⟨o, ho, fo⟩ := pO k hkn
    refine x_aload_n C d_Ru_valueAt_17 rfl rfl ?_
    refine x_get C k_Ru f_Ru_15 d_Ru_valueAt_18 fU (by rfl) ?_
    refine x_get C k_St f_Ru_103 d_Ru_valueAt_21 fS (by rfl) ?_
    refine x_iload_n C d_Ru_valueAt_24 rfl rfl ?_
    refine x_aald (t := 2) C rfl d_Ru_valueAt_25 fpk (vp_in_nI (by omega) (by decide)) ?_
    rw [nI_clamp hk2, ho]
    refine x_aload_n C d_Ru_valueAt_26 rfl rfl ?_
    refine x_get C k_Ru f_Ru_9 d_Ru_valueAt_27 fU (by rfl) ?_
    refine x_callV C l_Ru_107 v_Op_value d_Ru_valueAt_30 (m_Op_value fo frd (Or.inr hpi)) (by assumption) rfl (by rfl) (by rfl) (by decide) (by decide) (Nat.le_of_ble_eq_true rfl) ?_
    rintro v9 h9 ⟨rfl, rfl⟩
    refine x_i2l C d_Ru_valueAt_33 ?_
    refine x_lret C d_Ru_valueAt_34 ?_
    refine ⟨rfl, ?_⟩
    first | rw [if_pos hls] | rw [if_neg hls]
  · skip
    replace q7 := bI_t q7
    have hls : ls = 5 ∨ ls = 6 := by simpa using q7
    refine x_aload_n C d_Ru_valueAt_10 rfl rfl ?_
    refine x_get C k_Ru f_Ru_95 d_Ru_valueAt_11 fU (by rfl) ?_
    refine x_goto (tgt := 34) C d_Ru_valueAt_14 rfl ?_
    refine x_lret C d_Ru_valueAt_34 ?_
    refine ⟨rfl, ?_⟩
    first | rw [if_pos hls] | rw [if_neg hls]
set_option maxRecDepth 20000 in
set_option maxHeartbeats 1000000 in
theorem m_Ru_advanceE {V : xV} {h : xH} {U rd B : Nat} {gv on fp sp : Int32} {tt : Int64} {st : Value} (fU : h U = some (oRu st gv on 1 fp sp tt rd)) : xM V y_Ru_advance b_Ru_advance 3 (some .int) 6 [.ref U, .ref B] h 0 0 (fun v h' => h' = h ∧ v = some (.int 0)) := by
  refine xM_of false (by decide) (fun h => nomatch h) (Nat.le_of_ble_eq_true rfl) (fun K C => ?_)
  show K 0 0 h 0 [(0, .ref U), (1, .ref B)] []
  refine x_aload_n C d_Ru_advance_0 rfl rfl ?_
  refine x_get C k_Ru f_Ru_27 d_Ru_advance_1 fU (by rfl) ?_
  refine x_if_eq (tgt := 9) C d_Ru_advance_4 rfl (fun q4 => ?_) (fun q4 => ?_)
  · skip
    exact absurd q4 (by decide)
  · skip
    refine x_iconst (v := 0) C d_Ru_advance_7 (by decide) ?_
    refine x_iret C d_Ru_advance_8 ?_
    exact ⟨rfl, rfl⟩
set_option maxRecDepth 20000 in
set_option maxHeartbeats 1000000 in
theorem m_Ru_advanceC {V : xV} {h : xH} {U rd S nb pk cd B ce co sr t1 : Nat} {ls se fa nc np kc : Int32} {f c s g : Nat → Int32} (fS : h S = some (oSt 0 ls (nI t1) se fa nc nb np pk kc cd)) (fnb : h nb = some (xI V 6 g)) (pT : pTa V h B ce co sr f c s) (ht1 : t1 < 10) {gv on fp sp : Int32} {tt : Int64} (fU : h U = some (oRu (.ref S) gv on 0 fp sp tt rd)) : xM V y_Ru_advance b_Ru_advance 3 (some .int) 6 [.ref U, .ref B] h 0 0 (fun v h' => ∃ c' an, v = some (.int an) ∧ pTa V h' B ce co sr f c' s ∧ h' U = some (oRu (.ref S) gv 0 1 fp sp tt rd) ∧ xKeep [U, co] h h' ∧ ((¬ colOf c (nI t1) ≤ 0 ∧ an = -3 ∧ c' = c) ∨ (colOf c (nI t1) ≤ 0 ∧ an = 0 ∧ c' = upd c t1 (g 0)))) := by
  refine xM_of false (by decide) (fun h => nomatch h) (Nat.le_of_ble_eq_true rfl) (fun K C => ?_)
  show K 0 0 h 0 [(0, .ref U), (1, .ref B)] []
  have kp : xKeep [U, co] h h := xKeep.rf
  obtain ⟨fB, fce, fco, fsr⟩ := pT
  refine x_aload_n C d_Ru_advance_0 rfl rfl ?_
  refine x_get C k_Ru f_Ru_27 d_Ru_advance_1 fU (by rfl) ?_
  refine x_if_eq (tgt := 9) C d_Ru_advance_4 rfl (fun q4 => ?_) (fun q4 => ?_)
  · skip
    refine x_iconst (v := 0) C d_Ru_advance_9 (by decide) ?_
    refine x_istore_n (lv' := [(2, _), (0, _), (1, _)]) C d_Ru_advance_10 rfl (by decide) (by rfl) ?_
    refine x_aload_n C d_Ru_advance_11 rfl rfl ?_
    refine x_get C k_Ru f_Ru_15 d_Ru_advance_12 fU (by rfl) ?_
    refine x_get C k_St f_Ru_36 d_Ru_advance_15 fS (by rfl) ?_
    refine x_tabIn (tgt := 44) C d_Ru_advance_18 (by decide) (by decide) (by rfl) rfl ?_
    refine x_aload_n C d_Ru_advance_44 rfl rfl ?_
    refine x_aload_n C d_Ru_advance_45 rfl rfl ?_
    refine x_get C k_Ru f_Ru_15 d_Ru_advance_46 fU (by rfl) ?_
    refine x_get C k_St f_Ru_41 d_Ru_advance_49 fS (by rfl) ?_
    refine x_aload_n C d_Ru_advance_52 rfl rfl ?_
    refine x_get C k_Ru f_Ru_15 d_Ru_advance_53 fU (by rfl) ?_
    refine x_get C k_St f_Ru_44 d_Ru_advance_56 fS (by rfl) ?_
    refine x_iconst (v := 0) C d_Ru_advance_59 (by decide) ?_
    refine x_iald C d_Ru_advance_60 fnb (vp_in_nI (n := 0) (by decide) (by decide)) ?_
    rw [sb_cl0]
    refine x_callV C l_Ru_47 v_Ta_create d_Ru_advance_61 (m_Ta_create ⟨fB, fce, fco, fsr⟩ ht1 (g 0)) fB rfl (by rfl) (by rfl) (by decide) (by decide) (Nat.le_of_ble_eq_true rfl) ?_
    rintro v1 h1 (⟨rfl, hc, rfl⟩ | ⟨rfl, hc, u1⟩)
    · skip
      refine x_istore_n (lv' := [(2, _), (0, _), (1, _)]) C d_Ru_advance_64 rfl (by decide) (by rfl) ?_
      refine x_goto (tgt := 122) C d_Ru_advance_65 rfl ?_
      refine x_aload_n C d_Ru_advance_122 rfl rfl ?_
      refine x_iload_n C d_Ru_advance_123 rfl rfl ?_
      refine x_callV C l_Ru_72 v_Ru_note d_Ru_advance_124 (m_Ru_note fU _) fU rfl (by rfl) (by rfl) (by decide) (by decide) (Nat.le_of_ble_eq_true rfl) ?_
      rintro v2 h2 ⟨rfl, fU', kp2⟩
      have fS := kp2.get fS (nm_c (by first | assumption | exact Ne.symm (by assumption) | exact x_ne fS fU (by simp)) nm_n)
      have fnb := kp2.get fnb (nm_c (by first | assumption | exact Ne.symm (by assumption) | exact x_ne fnb fU (by simp)) nm_n)
      have fB := kp2.get fB (nm_c (by first | assumption | exact Ne.symm (by assumption) | exact x_ne fB fU (by simp)) nm_n)
      have fce := kp2.get fce (nm_c (by first | assumption | exact Ne.symm (by assumption) | exact x_ne fce fU (by simp)) nm_n)
      have fco := kp2.get fco (nm_c (by first | assumption | exact Ne.symm (by assumption) | exact x_ne fco fU (by simp)) nm_n)
      have fsr := kp2.get fsr (nm_c (by first | assumption | exact Ne.symm (by assumption) | exact x_ne fsr fU (by simp)) nm_n)
      have kp := kp.call kp2 (kc_c (Or.inl (by simp)) kc_n)
      have fU := fU'
      refine x_iload_n C d_Ru_advance_127 rfl rfl ?_
      refine x_iret C d_Ru_advance_128 ?_
      first | exact ⟨c, -3, rfl, ⟨fB, fce, fco, fsr⟩, by rw [fU]; rfl, kp, Or.inl ⟨hc, rfl, rfl⟩⟩ | exact ⟨_, 0, rfl, ⟨fB, fce, fco, fsr⟩, by rw [fU]; rfl, kp, Or.inr ⟨hc, rfl, rfl⟩⟩
    · skip
      have fU := xUp_ne u1 fU (by first | assumption | exact Ne.symm (by assumption) | exact x_ne fU fco (by simp))
      have fS := xUp_ne u1 fS (by first | assumption | exact Ne.symm (by assumption) | exact x_ne fS fco (by simp))
      have fnb := xUp_ne u1 fnb (by first | assumption | exact Ne.symm (by assumption) | exact x_ne fnb fco (by simp))
      have fB := xUp_ne u1 fB (by first | assumption | exact Ne.symm (by assumption) | exact x_ne fB fco (by simp))
      have fce := xUp_ne u1 fce (by first | assumption | exact Ne.symm (by assumption) | exact x_ne fce fco (by simp))
      have fsr := xUp_ne u1 fsr (by first | assumption | exact Ne.symm (by assumption) | exact x_ne fsr fco (by simp))
      have fco := xUp_at u1
      have kp := kp.up u1 (by simp)
      refine x_istore_n (lv' := [(2, _), (0, _), (1, _)]) C d_Ru_advance_64 rfl (by decide) (by rfl) ?_
      refine x_goto (tgt := 122) C d_Ru_advance_65 rfl ?_
      refine x_aload_n C d_Ru_advance_122 rfl rfl ?_
      refine x_iload_n C d_Ru_advance_123 rfl rfl ?_
      refine x_callV C l_Ru_72 v_Ru_note d_Ru_advance_124 (m_Ru_note fU _) fU rfl (by rfl) (by rfl) (by decide) (by decide) (Nat.le_of_ble_eq_true rfl) ?_
      rintro v3 h3 ⟨rfl, fU', kp3⟩
      have fS := kp3.get fS (nm_c (by first | assumption | exact Ne.symm (by assumption) | exact x_ne fS fU (by simp)) nm_n)
      have fnb := kp3.get fnb (nm_c (by first | assumption | exact Ne.symm (by assumption) | exact x_ne fnb fU (by simp)) nm_n)
      have fB := kp3.get fB (nm_c (by first | assumption | exact Ne.symm (by assumption) | exact x_ne fB fU (by simp)) nm_n)
      have fce := kp3.get fce (nm_c (by first | assumption | exact Ne.symm (by assumption) | exact x_ne fce fU (by simp)) nm_n)
      have fco := kp3.get fco (nm_c (by first | assumption | exact Ne.symm (by assumption) | exact x_ne fco fU (by simp)) nm_n)
      have fsr := kp3.get fsr (nm_c (by first | assumption | exact Ne.symm (by assumption) | exact x_ne fsr fU (by simp)) nm_n)
      have kp := kp.call kp3 (kc_c (Or.inl (by simp)) kc_n)
      have fU := fU'
      refine x_iload_n C d_Ru_advance_127 rfl rfl ?_
      refine x_iret C d_Ru_advance_128 ?_
      first | exact ⟨c, -3, rfl, ⟨fB, fce, fco, fsr⟩, by rw [fU]; rfl, kp, Or.inl ⟨hc, rfl, rfl⟩⟩ | exact ⟨_, 0, rfl, ⟨fB, fce, fco, fsr⟩, by rw [fU]; rfl, kp, Or.inr ⟨hc, rfl, rfl⟩⟩
  · skip
    exact absurd rfl q4
set_option maxRecDepth 20000 in
set_option maxHeartbeats 1000000 in
theorem m_Ru_advanceI {V : xV} {h : xH} {U rd S nb pk cd B ce co sr t1 : Nat} {ls se fa nc np kc : Int32} {f c s g : Nat → Int32} {SS : Nat → Nat} (fS : h S = some (oSt 1 ls (nI t1) se fa nc nb np pk kc cd)) (fnb : h nb = some (xI V 6 g)) (pT : pTa V h B ce co sr f c s) (hS : pS s SS) (ht1 : t1 < 10) {gv on fp sp : Int32} {tt : Int64} (fU : h U = some (oRu (.ref S) gv on 0 fp sp tt rd)) : xM V y_Ru_advance b_Ru_advance 3 (some .int) 6 [.ref U, .ref B] h 0 0 (fun v h' => ∃ p an f' s' SS', v = some (.int an) ∧ pNB (fun j => f ((SS t1 + j) * 6)) (SS (t1 + 1) - SS t1) (g 0) p ∧ pTa V h' B ce co sr f' c s' ∧ pS s' SS' ∧ h' U = some (oRu (.ref S) gv 0 1 fp sp tt rd) ∧ xKeep [U, ce, sr] h h' ∧ (((p < SS (t1 + 1) - SS t1 ∧ f ((SS t1 + p) * 6) = g 0) ∧ an = -1 ∧ f' = f ∧ SS' = SS) ∨ (¬ (p < SS (t1 + 1) - SS t1 ∧ f ((SS t1 + p) * 6) = g 0) ∧ 400 ≤ SS 10 ∧ an = -2 ∧ f' = f ∧ SS' = SS) ∨ (¬ (p < SS (t1 + 1) - SS t1 ∧ f ((SS t1 + p) * 6) = g 0) ∧ SS 10 < 400 ∧ an = 0 ∧ SS' = incB SS t1 ∧ tbl f' SS' t1 = (tbl f SS t1).insertIdx p (row6 g 0) ∧ ∀ t', t' < 10 → t' ≠ t1 → tbl f' SS' t' = tbl f SS t'))) := by
  refine xM_of false (by decide) (fun h => nomatch h) (Nat.le_of_ble_eq_true rfl) (fun K C => ?_)
  show K 0 0 h 0 [(0, .ref U), (1, .ref B)] []
  have kp : xKeep [U, ce, sr] h h := xKeep.rf
  obtain ⟨fB, fce, fco, fsr⟩ := pT
  refine x_aload_n C d_Ru_advance_0 rfl rfl ?_
  refine x_get C k_Ru f_Ru_27 d_Ru_advance_1 fU (by rfl) ?_
  refine x_if_eq (tgt := 9) C d_Ru_advance_4 rfl (fun q4 => ?_) (fun q4 => ?_)
  · skip
    refine x_iconst (v := 0) C d_Ru_advance_9 (by decide) ?_
    refine x_istore_n (lv' := [(2, _), (0, _), (1, _)]) C d_Ru_advance_10 rfl (by decide) (by rfl) ?_
    refine x_aload_n C d_Ru_advance_11 rfl rfl ?_
    refine x_get C k_Ru f_Ru_15 d_Ru_advance_12 fU (by rfl) ?_
    refine x_get C k_St f_Ru_36 d_Ru_advance_15 fS (by rfl) ?_
    refine x_tabIn (tgt := 68) C d_Ru_advance_18 (by decide) (by decide) (by rfl) rfl ?_
    refine x_aload_n C d_Ru_advance_68 rfl rfl ?_
    refine x_aload_n C d_Ru_advance_69 rfl rfl ?_
    refine x_get C k_Ru f_Ru_15 d_Ru_advance_70 fU (by rfl) ?_
    refine x_get C k_St f_Ru_41 d_Ru_advance_73 fS (by rfl) ?_
    refine x_aload_n C d_Ru_advance_76 rfl rfl ?_
    refine x_get C k_Ru f_Ru_15 d_Ru_advance_77 fU (by rfl) ?_
    refine x_get C k_St f_Ru_44 d_Ru_advance_80 fS (by rfl) ?_
    refine x_callV C l_Ru_53 v_Ta_insert d_Ru_advance_83 (m_Ta_insert ⟨fB, fce, fco, fsr⟩ hS ht1 fnb) fB rfl (by rfl) (by rfl) (by decide) (by decide) (Nat.le_of_ble_eq_true rfl) ?_
    rintro v1 h1 ⟨p, hp, ⟨rfl, hc, rfl⟩ | ⟨rfl, hc, hf4, rfl⟩ | ⟨rfl, hc, hf4, s', pT', hs', kp1⟩⟩
    · skip
      refine x_istore_n (lv' := [(2, _), (0, _), (1, _)]) C d_Ru_advance_86 rfl (by decide) (by rfl) ?_
      refine x_goto (tgt := 122) C d_Ru_advance_87 rfl ?_
      refine x_aload_n C d_Ru_advance_122 rfl rfl ?_
      refine x_iload_n C d_Ru_advance_123 rfl rfl ?_
      refine x_callV C l_Ru_72 v_Ru_note d_Ru_advance_124 (m_Ru_note fU _) fU rfl (by rfl) (by rfl) (by decide) (by decide) (Nat.le_of_ble_eq_true rfl) ?_
      rintro v2 h2 ⟨rfl, fU', kp2⟩
      have fS := kp2.get fS (nm_c (by first | assumption | exact Ne.symm (by assumption) | exact x_ne fS fU (by simp)) nm_n)
      have fnb := kp2.get fnb (nm_c (by first | assumption | exact Ne.symm (by assumption) | exact x_ne fnb fU (by simp)) nm_n)
      have fB := kp2.get fB (nm_c (by first | assumption | exact Ne.symm (by assumption) | exact x_ne fB fU (by simp)) nm_n)
      have fce := kp2.get fce (nm_c (by first | assumption | exact Ne.symm (by assumption) | exact x_ne fce fU (by simp)) nm_n)
      have fco := kp2.get fco (nm_c (by first | assumption | exact Ne.symm (by assumption) | exact x_ne fco fU (by simp)) nm_n)
      have fsr := kp2.get fsr (nm_c (by first | assumption | exact Ne.symm (by assumption) | exact x_ne fsr fU (by simp)) nm_n)
      have kp := kp.call kp2 (kc_c (Or.inl (by simp)) kc_n)
      have fU := fU'
      refine x_iload_n C d_Ru_advance_127 rfl rfl ?_
      refine x_iret C d_Ru_advance_128 ?_
      first | exact ⟨p, -1, f, s, SS, rfl, hp, ⟨fB, fce, fco, fsr⟩, hS, by rw [fU]; rfl, kp, Or.inl ⟨hc, rfl, rfl, rfl⟩⟩ | exact ⟨p, -2, f, s, SS, rfl, hp, ⟨fB, fce, fco, fsr⟩, hS, by rw [fU]; rfl, kp, Or.inr (Or.inl ⟨hc, hf4, rfl, rfl, rfl⟩)⟩ | exact ⟨p, 0, _, s', incB SS t1, rfl, hp, ⟨fB, fce, fco, fsr⟩, hS.inc ht1 hs' hf4, by rw [fU]; rfl, kp, Or.inr (Or.inr ⟨hc, hf4, rfl, rfl, tbl_ins hS ht1 hp.1, fun t' h1 h2 => tbl_insO hS ht1 h1 h2 hp.1⟩)⟩
    · skip
      refine x_istore_n (lv' := [(2, _), (0, _), (1, _)]) C d_Ru_advance_86 rfl (by decide) (by rfl) ?_
      refine x_goto (tgt := 122) C d_Ru_advance_87 rfl ?_
      refine x_aload_n C d_Ru_advance_122 rfl rfl ?_
      refine x_iload_n C d_Ru_advance_123 rfl rfl ?_
      refine x_callV C l_Ru_72 v_Ru_note d_Ru_advance_124 (m_Ru_note fU _) fU rfl (by rfl) (by rfl) (by decide) (by decide) (Nat.le_of_ble_eq_true rfl) ?_
      rintro v3 h3 ⟨rfl, fU', kp3⟩
      have fS := kp3.get fS (nm_c (by first | assumption | exact Ne.symm (by assumption) | exact x_ne fS fU (by simp)) nm_n)
      have fnb := kp3.get fnb (nm_c (by first | assumption | exact Ne.symm (by assumption) | exact x_ne fnb fU (by simp)) nm_n)
      have fB := kp3.get fB (nm_c (by first | assumption | exact Ne.symm (by assumption) | exact x_ne fB fU (by simp)) nm_n)
      have fce := kp3.get fce (nm_c (by first | assumption | exact Ne.symm (by assumption) | exact x_ne fce fU (by simp)) nm_n)
      have fco := kp3.get fco (nm_c (by first | assumption | exact Ne.symm (by assumption) | exact x_ne fco fU (by simp)) nm_n)
      have fsr := kp3.get fsr (nm_c (by first | assumption | exact Ne.symm (by assumption) | exact x_ne fsr fU (by simp)) nm_n)
      have kp := kp.call kp3 (kc_c (Or.inl (by simp)) kc_n)
      have fU := fU'
      refine x_iload_n C d_Ru_advance_127 rfl rfl ?_
      refine x_iret C d_Ru_advance_128 ?_
      first | exact ⟨p, -1, f, s, SS, rfl, hp, ⟨fB, fce, fco, fsr⟩, hS, by rw [fU]; rfl, kp, Or.inl ⟨hc, rfl, rfl, rfl⟩⟩ | exact ⟨p, -2, f, s, SS, rfl, hp, ⟨fB, fce, fco, fsr⟩, hS, by rw [fU]; rfl, kp, Or.inr (Or.inl ⟨hc, hf4, rfl, rfl, rfl⟩)⟩ | exact ⟨p, 0, _, s', incB SS t1, rfl, hp, ⟨fB, fce, fco, fsr⟩, hS.inc ht1 hs' hf4, by rw [fU]; rfl, kp, Or.inr (Or.inr ⟨hc, hf4, rfl, rfl, tbl_ins hS ht1 hp.1, fun t' h1 h2 => tbl_insO hS ht1 h1 h2 hp.1⟩)⟩
    · skip
      have fU := kp1.get fU (nm_c (by first | assumption | exact Ne.symm (by assumption) | exact x_ne fU fce (by simp)) (nm_c (by first | assumption | exact Ne.symm (by assumption) | exact x_ne fU fsr (by simp)) nm_n))
      have fS := kp1.get fS (nm_c (by first | assumption | exact Ne.symm (by assumption) | exact x_ne fS fce (by simp)) (nm_c (by first | assumption | exact Ne.symm (by assumption) | exact x_ne fS fsr (by simp)) nm_n))
      have fnb := kp1.get fnb (nm_c (by first | assumption | exact Ne.symm (by assumption) | exact x_ne fnb fce (by simp)) (nm_c (by first | assumption | exact Ne.symm (by assumption) | exact x_ne fnb fsr (by simp)) nm_n))
      have fB := kp1.get fB (nm_c (by first | assumption | exact Ne.symm (by assumption) | exact x_ne fB fce (by simp)) (nm_c (by first | assumption | exact Ne.symm (by assumption) | exact x_ne fB fsr (by simp)) nm_n))
      have fco := kp1.get fco (nm_c (by first | assumption | exact Ne.symm (by assumption) | exact x_ne fco fce (by simp)) (nm_c (by first | assumption | exact Ne.symm (by assumption) | exact x_ne fco fsr (by simp)) nm_n))
      have kp := kp.call kp1 (kc_c (Or.inl (by simp)) (kc_c (Or.inl (by simp)) kc_n))
      have fce := pT'.2.1
      have fsr := pT'.2.2.2
      refine x_istore_n (lv' := [(2, _), (0, _), (1, _)]) C d_Ru_advance_86 rfl (by decide) (by rfl) ?_
      refine x_goto (tgt := 122) C d_Ru_advance_87 rfl ?_
      refine x_aload_n C d_Ru_advance_122 rfl rfl ?_
      refine x_iload_n C d_Ru_advance_123 rfl rfl ?_
      refine x_callV C l_Ru_72 v_Ru_note d_Ru_advance_124 (m_Ru_note fU _) fU rfl (by rfl) (by rfl) (by decide) (by decide) (Nat.le_of_ble_eq_true rfl) ?_
      rintro v4 h4 ⟨rfl, fU', kp4⟩
      have fS := kp4.get fS (nm_c (by first | assumption | exact Ne.symm (by assumption) | exact x_ne fS fU (by simp)) nm_n)
      have fnb := kp4.get fnb (nm_c (by first | assumption | exact Ne.symm (by assumption) | exact x_ne fnb fU (by simp)) nm_n)
      have fB := kp4.get fB (nm_c (by first | assumption | exact Ne.symm (by assumption) | exact x_ne fB fU (by simp)) nm_n)
      have fce := kp4.get fce (nm_c (by first | assumption | exact Ne.symm (by assumption) | exact x_ne fce fU (by simp)) nm_n)
      have fco := kp4.get fco (nm_c (by first | assumption | exact Ne.symm (by assumption) | exact x_ne fco fU (by simp)) nm_n)
      have fsr := kp4.get fsr (nm_c (by first | assumption | exact Ne.symm (by assumption) | exact x_ne fsr fU (by simp)) nm_n)
      have kp := kp.call kp4 (kc_c (Or.inl (by simp)) kc_n)
      have fU := fU'
      refine x_iload_n C d_Ru_advance_127 rfl rfl ?_
      refine x_iret C d_Ru_advance_128 ?_
      first | exact ⟨p, -1, f, s, SS, rfl, hp, ⟨fB, fce, fco, fsr⟩, hS, by rw [fU]; rfl, kp, Or.inl ⟨hc, rfl, rfl, rfl⟩⟩ | exact ⟨p, -2, f, s, SS, rfl, hp, ⟨fB, fce, fco, fsr⟩, hS, by rw [fU]; rfl, kp, Or.inr (Or.inl ⟨hc, hf4, rfl, rfl, rfl⟩)⟩ | exact ⟨p, 0, _, s', incB SS t1, rfl, hp, ⟨fB, fce, fco, fsr⟩, hS.inc ht1 hs' hf4, by rw [fU]; rfl, kp, Or.inr (Or.inr ⟨hc, hf4, rfl, rfl, tbl_ins hS ht1 hp.1, fun t' h1 h2 => tbl_insO hS ht1 h1 h2 hp.1⟩)⟩
  · skip
    exact absurd rfl q4
set_option maxRecDepth 20000 in
set_option maxHeartbeats 1000000 in
theorem m_Ru_advanceD {V : xV} {h : xH} {U rd S nb pk cd B ce co sr : Nat} {ls se fa nc : Int32} {np kc t1 : Nat} {f c s g : Nat → Int32} {po cp : Nat → Option Nat} {pick : Nat → Int32} {cf : Nat → tCd} {SS : Nat → Nat} (fS : h S = some (oSt 2 ls (nI t1) se fa nc nb (nI np) pk (nI kc) cd)) (fpk : h pk = some (xR V 2 12 po)) (fcd : h cd = some (xR V 3 8 cp)) (hnp : np ≤ 12) (hkc : kc ≤ 8) (pO : pOps h po np pick) (pC : pCds h cp kc cf) (pT : pTa V h B ce co sr f c s) (hS : pS s SS) (ht1 : t1 < 10) (frd : h rd = some (xI V 16 g)) (hin : ∀ j, j < kc → cdIn (cf j)) {gv on fp sp : Int32} {tt : Int64} (fU : h U = some (oRu (.ref S) gv on 0 fp sp tt rd)) : xM V y_Ru_advance b_Ru_advance 3 (some .int) 6 [.ref U, .ref B] h 0 0 (fun v h' => v = some (.int 0) ∧ ∃ f' s' SS' g', pTa V h' B ce co sr f' c s' ∧ pS s' SS' ∧ SS' 0 = SS 0 ∧ tbl f' SS' t1 = (tbl f SS t1).filter (fun r => !cdsVal kc cf (mix r g)) ∧ (∀ t', t' < 10 → t' ≠ t1 → tbl f' SS' t' = tbl f SS t') ∧ h' rd = some (xI V 16 g') ∧ rdE (-1) g' g ∧ h' U = some (oRu (.ref S) gv 0 1 fp sp tt rd) ∧ xKeep [U, ce, sr, rd] h h') := by
  refine xM_of false (by decide) (fun h => nomatch h) (Nat.le_of_ble_eq_true rfl) (fun K C => ?_)
  show K 0 0 h 0 [(0, .ref U), (1, .ref B)] []
  have kp : xKeep [U, ce, sr, rd] h h := xKeep.rf
  obtain ⟨fB, fce, fco, fsr⟩ := pT
  refine x_aload_n C d_Ru_advance_0 rfl rfl ?_
  refine x_get C k_Ru f_Ru_27 d_Ru_advance_1 fU (by rfl) ?_
  refine x_if_eq (tgt := 9) C d_Ru_advance_4 rfl (fun q4 => ?_) (fun q4 => ?_)
  · skip
    refine x_iconst (v := 0) C d_Ru_advance_9 (by decide) ?_
    refine x_istore_n (lv' := [(2, _), (0, _), (1, _)]) C d_Ru_advance_10 rfl (by decide) (by rfl) ?_
    refine x_aload_n C d_Ru_advance_11 rfl rfl ?_
    refine x_get C k_Ru f_Ru_15 d_Ru_advance_12 fU (by rfl) ?_
    refine x_get C k_St f_Ru_36 d_Ru_advance_15 fS (by rfl) ?_
    refine x_tabIn (tgt := 90) C d_Ru_advance_18 (by decide) (by decide) (by rfl) rfl ?_
    refine x_aload_n C d_Ru_advance_90 rfl rfl ?_
    refine x_aload_n C d_Ru_advance_91 rfl rfl ?_
    refine x_callV C l_Ru_57 v_Ru_deleteRows d_Ru_advance_92 (m_Ru_deleteRows fS fpk fcd hnp hkc pO pC ⟨fB, fce, fco, fsr⟩ hS ht1 frd hin fU) fU rfl (by rfl) (by rfl) (by decide) (by decide) (Nat.le_of_ble_eq_true rfl) ?_
    rintro v1 h1 ⟨rfl, f', s', SS', g', pT', hS', hz', ht', hto, frd', hE', kp1⟩
    have fU := kp1.get fU (nm_c (by first | assumption | exact Ne.symm (by assumption) | exact x_ne fU fce (by simp)) (nm_c (by first | assumption | exact Ne.symm (by assumption) | exact x_ne fU fsr (by simp)) (nm_c (by first | assumption | exact Ne.symm (by assumption) | exact x_ne fU frd (by simp)) nm_n)))
    have fS := kp1.get fS (nm_c (by first | assumption | exact Ne.symm (by assumption) | exact x_ne fS fce (by simp)) (nm_c (by first | assumption | exact Ne.symm (by assumption) | exact x_ne fS fsr (by simp)) (nm_c (by first | assumption | exact Ne.symm (by assumption) | exact x_ne fS frd (by simp)) nm_n)))
    have fpk := kp1.get fpk (nm_c (by first | assumption | exact Ne.symm (by assumption) | exact x_ne fpk fce (by simp)) (nm_c (by first | assumption | exact Ne.symm (by assumption) | exact x_ne fpk fsr (by simp)) (nm_c (by first | assumption | exact Ne.symm (by assumption) | exact x_ne fpk frd (by simp)) nm_n)))
    have fcd := kp1.get fcd (nm_c (by first | assumption | exact Ne.symm (by assumption) | exact x_ne fcd fce (by simp)) (nm_c (by first | assumption | exact Ne.symm (by assumption) | exact x_ne fcd fsr (by simp)) (nm_c (by first | assumption | exact Ne.symm (by assumption) | exact x_ne fcd frd (by simp)) nm_n)))
    have fB := kp1.get fB (nm_c (by first | assumption | exact Ne.symm (by assumption) | exact x_ne fB fce (by simp)) (nm_c (by first | assumption | exact Ne.symm (by assumption) | exact x_ne fB fsr (by simp)) (nm_c (by first | assumption | exact Ne.symm (by assumption) | exact x_ne fB frd (by simp)) nm_n)))
    have fco := kp1.get fco (nm_c (by first | assumption | exact Ne.symm (by assumption) | exact x_ne fco fce (by simp)) (nm_c (by first | assumption | exact Ne.symm (by assumption) | exact x_ne fco fsr (by simp)) (nm_c (by first | assumption | exact Ne.symm (by assumption) | exact x_ne fco frd (by simp)) nm_n)))
    have kp := kp.call kp1 (kc_c (Or.inl (by simp)) (kc_c (Or.inl (by simp)) (kc_c (Or.inl (by simp)) kc_n)))
    have fce := pT'.2.1
    have fsr := pT'.2.2.2
    have frd := frd'
    refine x_goto (tgt := 122) C d_Ru_advance_95 rfl ?_
    refine x_aload_n C d_Ru_advance_122 rfl rfl ?_
    refine x_iload_n C d_Ru_advance_123 rfl rfl ?_
    refine x_callV C l_Ru_72 v_Ru_note d_Ru_advance_124 (m_Ru_note fU 0) fU rfl (by rfl) (by rfl) (by decide) (by decide) (Nat.le_of_ble_eq_true rfl) ?_
    rintro v2 h2 ⟨rfl, fU', kp2⟩
    have frd := kp2.get frd (nm_c (by first | assumption | exact Ne.symm (by assumption) | exact x_ne frd fU (by simp)) nm_n)
    have fS := kp2.get fS (nm_c (by first | assumption | exact Ne.symm (by assumption) | exact x_ne fS fU (by simp)) nm_n)
    have fpk := kp2.get fpk (nm_c (by first | assumption | exact Ne.symm (by assumption) | exact x_ne fpk fU (by simp)) nm_n)
    have fcd := kp2.get fcd (nm_c (by first | assumption | exact Ne.symm (by assumption) | exact x_ne fcd fU (by simp)) nm_n)
    have fB := kp2.get fB (nm_c (by first | assumption | exact Ne.symm (by assumption) | exact x_ne fB fU (by simp)) nm_n)
    have fce := kp2.get fce (nm_c (by first | assumption | exact Ne.symm (by assumption) | exact x_ne fce fU (by simp)) nm_n)
    have fco := kp2.get fco (nm_c (by first | assumption | exact Ne.symm (by assumption) | exact x_ne fco fU (by simp)) nm_n)
    have fsr := kp2.get fsr (nm_c (by first | assumption | exact Ne.symm (by assumption) | exact x_ne fsr fU (by simp)) nm_n)
    have kp := kp.call kp2 (kc_c (Or.inl (by simp)) kc_n)
    have fU := fU'
    refine x_iload_n C d_Ru_advance_127 rfl rfl ?_
    refine x_iret C d_Ru_advance_128 ?_
    exact ⟨rfl, f', s', SS', g', ⟨fB, fce, fco, fsr⟩, hS', hz', ht', hto, frd, hE', by rw [fU]; rfl, kp⟩
  · skip
    exact absurd rfl q4
set_option maxRecDepth 20000 in
set_option maxHeartbeats 1000000 in
theorem m_Ru_advanceT {V : xV} {h : xH} {U rd S nb pk cd B ce co sr : Nat} {ls se fa nc : Int32} {np kc t1 t2 n2 : Nat} {f c s g : Nat → Int32} {po cp : Nat → Option Nat} {pick : Nat → Int32} {cf : Nat → tCd} {SS : Nat → Nat} (fS : h S = some (oSt 3 ls (nI t1) se fa nc nb (nI np) pk (nI kc) cd)) (fpk : h pk = some (xR V 2 12 po)) (fcd : h cd = some (xR V 3 8 cp)) (hnp : np ≤ 12) (hkc : kc ≤ 8) (pO : pOps h po np pick) (pC : pCds h cp kc cf) (pT : pTa V h B ce co sr f c s) (hS : pS s SS) (ht1 : t1 < 10) (h2 : (se = -1 ∧ n2 = 1) ∨ (se = nI t2 ∧ t2 < 10 ∧ n2 = SS (t2 + 1) - SS t2)) (frd : h rd = some (xI V 16 g)) (hin : ∀ j, j < kc → cdIn (cf j)) {on : Int32} {tt : Int64} {gv : Nat} (fU : h U = some (oRu (.ref S) (nI gv) on 0 0 0 tt rd)) (hgv : gv < 2 ^ 31 - 1) (hT : ls = 5 ∨ ls = 6) (hsum : ls = 5 ∨ (0 < np ∧ vp_in (pick 0) 16)) : xM V y_Ru_advance b_Ru_advance 3 (some .int) 6 [.ref U, .ref B] h 0 0 (fun v h' => (0 < gv ∧ v = some (.int 0) ∧ h' U = some (oRu (.ref S) (nI gv) 0 1 0 0 tt rd) ∧ xKeep [U, rd] h h') ∨ (gv = 0 ∧ v = some (.int 1) ∧ ∃ g' fp' sp', xKeep [U, rd] h h' ∧ h' rd = some (xI V 16 g') ∧ rdE se g' g ∧ h' U = some (oRu (.ref S) 1 1 0 fp' sp' (sumUp (fun a b => if (fun a b => cdsVal kc cf (rdF f g ((SS t1 + plc fa (SS (t1 + 1) - SS t1) a) * 6) (sec se fa (SS t2) n2 b))) a b = true then (fun a b => if ls = 5 then (1 : Int64) else (opVal 2 (pick 0) (rdF f g ((SS t1 + plc fa (SS (t1 + 1) - SS t1) a) * 6) (sec se fa (SS t2) n2 b))).toInt64) a b else 0) n2 (SS (t1 + 1) - SS t1) 0) rd))) := by
  refine xM_of false (by decide) (fun h => nomatch h) (Nat.le_of_ble_eq_true rfl) (fun K C => ?_)
  show K 0 0 h 0 [(0, .ref U), (1, .ref B)] []
  have kp : xKeep [U, rd] h h := xKeep.rf
  obtain ⟨fB, fce, fco, fsr⟩ := pT
  refine x_aload_n C d_Ru_advance_0 rfl rfl ?_
  refine x_get C k_Ru f_Ru_27 d_Ru_advance_1 fU (by rfl) ?_
  refine x_if_eq (tgt := 9) C d_Ru_advance_4 rfl (fun q4 => ?_) (fun q4 => ?_)
  · skip
    refine x_iconst (v := 0) C d_Ru_advance_9 (by decide) ?_
    refine x_istore_n (lv' := [(2, _), (0, _), (1, _)]) C d_Ru_advance_10 rfl (by decide) (by rfl) ?_
    refine x_aload_n C d_Ru_advance_11 rfl rfl ?_
    refine x_get C k_Ru f_Ru_15 d_Ru_advance_12 fU (by rfl) ?_
    refine x_get C k_St f_Ru_36 d_Ru_advance_15 fS (by rfl) ?_
    refine x_tabOut (tgt := 98) C d_Ru_advance_18 (by decide) rfl ?_
    refine x_aload_n C d_Ru_advance_98 rfl rfl ?_
    refine x_get C k_Ru f_Ru_15 d_Ru_advance_99 fU (by rfl) ?_
    refine x_callV C l_Ru_61 v_St_hasTotal d_Ru_advance_102 (m_St_hasTotal fS) fS rfl (by rfl) (by rfl) (by decide) (by decide) (Nat.le_of_ble_eq_true rfl) ?_
    rintro v9 h9 ⟨rfl, rfl⟩
    refine x_if_eq (tgt := 116) C d_Ru_advance_105 rfl (fun q105 => ?_) (fun q105 => ?_)
    · skip
      replace q105 := bI_f q105
      rcases hT with z | z <;> (rw [z] at q105; exact absurd q105 (by decide))
    · skip
      replace q105 := bI_t q105
      refine x_aload_n C d_Ru_advance_108 rfl rfl ?_
      refine x_aload_n C d_Ru_advance_109 rfl rfl ?_
      refine x_callV C l_Ru_65 v_Ru_giveTotal d_Ru_advance_110 (m_Ru_giveTotal fS fpk fcd hnp hkc pO pC ⟨fB, fce, fco, fsr⟩ hS ht1 h2 frd hin fU (by omega) hsum) fU rfl (by rfl) (by rfl) (by decide) (by decide) (Nat.le_of_ble_eq_true rfl) ?_
      rintro v1 h1 (⟨hg0, rfl, rfl⟩ | ⟨hg0, rfl, g', fp', sp', kp1, frd', hE', fU'⟩)
      · skip
        refine x_goto (tgt := 121) C d_Ru_advance_113 rfl ?_
        refine x_istore_n (lv' := [(2, _), (0, _), (1, _)]) C d_Ru_advance_121 rfl (by decide) (by rfl) ?_
        refine x_aload_n C d_Ru_advance_122 rfl rfl ?_
        refine x_iload_n C d_Ru_advance_123 rfl rfl ?_
        refine x_callV C l_Ru_72 v_Ru_note d_Ru_advance_124 (m_Ru_note fU _) fU rfl (by rfl) (by rfl) (by decide) (by decide) (Nat.le_of_ble_eq_true rfl) ?_
        rintro v2 h2 ⟨rfl, fU', kp2⟩
        have frd := kp2.get frd (nm_c (by first | assumption | exact Ne.symm (by assumption) | exact x_ne frd fU (by simp)) nm_n)
        have fS := kp2.get fS (nm_c (by first | assumption | exact Ne.symm (by assumption) | exact x_ne fS fU (by simp)) nm_n)
        have fpk := kp2.get fpk (nm_c (by first | assumption | exact Ne.symm (by assumption) | exact x_ne fpk fU (by simp)) nm_n)
        have fcd := kp2.get fcd (nm_c (by first | assumption | exact Ne.symm (by assumption) | exact x_ne fcd fU (by simp)) nm_n)
        have fB := kp2.get fB (nm_c (by first | assumption | exact Ne.symm (by assumption) | exact x_ne fB fU (by simp)) nm_n)
        have fce := kp2.get fce (nm_c (by first | assumption | exact Ne.symm (by assumption) | exact x_ne fce fU (by simp)) nm_n)
        have fco := kp2.get fco (nm_c (by first | assumption | exact Ne.symm (by assumption) | exact x_ne fco fU (by simp)) nm_n)
        have fsr := kp2.get fsr (nm_c (by first | assumption | exact Ne.symm (by assumption) | exact x_ne fsr fU (by simp)) nm_n)
        have kp := kp.call kp2 (kc_c (Or.inl (by simp)) kc_n)
        have fU := fU'
        refine x_iload_n C d_Ru_advance_127 rfl rfl ?_
        refine x_iret C d_Ru_advance_128 ?_
        first | (refine Or.inl ⟨hg0, rfl, ?_, kp⟩; rw [fU]; rfl) | (refine Or.inr ⟨hg0, rfl, g', fp', sp', kp, frd, hE', ?_⟩; subst hg0; rw [fU]; rfl)
      · skip
        have fS := kp1.get fS (nm_c (by first | assumption | exact Ne.symm (by assumption) | exact x_ne fS fU (by simp)) (nm_c (by first | assumption | exact Ne.symm (by assumption) | exact x_ne fS frd (by simp)) nm_n))
        have fpk := kp1.get fpk (nm_c (by first | assumption | exact Ne.symm (by assumption) | exact x_ne fpk fU (by simp)) (nm_c (by first | assumption | exact Ne.symm (by assumption) | exact x_ne fpk frd (by simp)) nm_n))
        have fcd := kp1.get fcd (nm_c (by first | assumption | exact Ne.symm (by assumption) | exact x_ne fcd fU (by simp)) (nm_c (by first | assumption | exact Ne.symm (by assumption) | exact x_ne fcd frd (by simp)) nm_n))
        have fB := kp1.get fB (nm_c (by first | assumption | exact Ne.symm (by assumption) | exact x_ne fB fU (by simp)) (nm_c (by first | assumption | exact Ne.symm (by assumption) | exact x_ne fB frd (by simp)) nm_n))
        have fce := kp1.get fce (nm_c (by first | assumption | exact Ne.symm (by assumption) | exact x_ne fce fU (by simp)) (nm_c (by first | assumption | exact Ne.symm (by assumption) | exact x_ne fce frd (by simp)) nm_n))
        have fco := kp1.get fco (nm_c (by first | assumption | exact Ne.symm (by assumption) | exact x_ne fco fU (by simp)) (nm_c (by first | assumption | exact Ne.symm (by assumption) | exact x_ne fco frd (by simp)) nm_n))
        have fsr := kp1.get fsr (nm_c (by first | assumption | exact Ne.symm (by assumption) | exact x_ne fsr fU (by simp)) (nm_c (by first | assumption | exact Ne.symm (by assumption) | exact x_ne fsr frd (by simp)) nm_n))
        have kp := kp.call kp1 (kc_c (Or.inl (by simp)) (kc_c (Or.inl (by simp)) kc_n))
        have fU := fU'
        have frd := frd'
        refine x_goto (tgt := 121) C d_Ru_advance_113 rfl ?_
        refine x_istore_n (lv' := [(2, _), (0, _), (1, _)]) C d_Ru_advance_121 rfl (by decide) (by rfl) ?_
        refine x_aload_n C d_Ru_advance_122 rfl rfl ?_
        refine x_iload_n C d_Ru_advance_123 rfl rfl ?_
        refine x_callV C l_Ru_72 v_Ru_note d_Ru_advance_124 (m_Ru_note fU _) fU rfl (by rfl) (by rfl) (by decide) (by decide) (Nat.le_of_ble_eq_true rfl) ?_
        rintro v3 h3 ⟨rfl, fU', kp3⟩
        have frd := kp3.get frd (nm_c (by first | assumption | exact Ne.symm (by assumption) | exact x_ne frd fU (by simp)) nm_n)
        have fS := kp3.get fS (nm_c (by first | assumption | exact Ne.symm (by assumption) | exact x_ne fS fU (by simp)) nm_n)
        have fpk := kp3.get fpk (nm_c (by first | assumption | exact Ne.symm (by assumption) | exact x_ne fpk fU (by simp)) nm_n)
        have fcd := kp3.get fcd (nm_c (by first | assumption | exact Ne.symm (by assumption) | exact x_ne fcd fU (by simp)) nm_n)
        have fB := kp3.get fB (nm_c (by first | assumption | exact Ne.symm (by assumption) | exact x_ne fB fU (by simp)) nm_n)
        have fce := kp3.get fce (nm_c (by first | assumption | exact Ne.symm (by assumption) | exact x_ne fce fU (by simp)) nm_n)
        have fco := kp3.get fco (nm_c (by first | assumption | exact Ne.symm (by assumption) | exact x_ne fco fU (by simp)) nm_n)
        have fsr := kp3.get fsr (nm_c (by first | assumption | exact Ne.symm (by assumption) | exact x_ne fsr fU (by simp)) nm_n)
        have kp := kp.call kp3 (kc_c (Or.inl (by simp)) kc_n)
        have fU := fU'
        refine x_iload_n C d_Ru_advance_127 rfl rfl ?_
        refine x_iret C d_Ru_advance_128 ?_
        first | (refine Or.inl ⟨hg0, rfl, ?_, kp⟩; rw [fU]; rfl) | (refine Or.inr ⟨hg0, rfl, g', fp', sp', kp, frd, hE', ?_⟩; subst hg0; rw [fU]; rfl)
  · skip
    exact absurd rfl q4
set_option maxRecDepth 20000 in
set_option maxHeartbeats 1000000 in
theorem m_Ru_advanceR {V : xV} {h : xH} {U rd S nb pk cd B ce co sr : Nat} {ls se fa nc : Int32} {np kc t1 t2 n2 : Nat} {f c s g : Nat → Int32} {po cp : Nat → Option Nat} {pick : Nat → Int32} {cf : Nat → tCd} {SS : Nat → Nat} (fS : h S = some (oSt 3 ls (nI t1) se fa nc nb (nI np) pk (nI kc) cd)) (fpk : h pk = some (xR V 2 12 po)) (fcd : h cd = some (xR V 3 8 cp)) (hnp : np ≤ 12) (hkc : kc ≤ 8) (pO : pOps h po np pick) (pC : pCds h cp kc cf) (pT : pTa V h B ce co sr f c s) (hS : pS s SS) (ht1 : t1 < 10) (h2 : (se = -1 ∧ n2 = 1) ∨ (se = nI t2 ∧ t2 < 10 ∧ n2 = SS (t2 + 1) - SS t2)) (frd : h rd = some (xI V 16 g)) (hin : ∀ j, j < kc → cdIn (cf j)) {on : Int32} {tt : Int64} {gv : Int32} {i j : Nat} (fU : h U = some (oRu (.ref S) gv on 0 (nI i) (nI j) tt rd)) (hi : i ≤ (SS (t1 + 1) - SS t1)) (hj : j ≤ n2) (hT : ¬ (ls = 5 ∨ ls = 6)) : xM V y_Ru_advance b_Ru_advance 3 (some .int) 6 [.ref U, .ref B] h 0 0 (fun v h' => ∃ g', xKeep [U, rd] h h' ∧ h' rd = some (xI V 16 g') ∧ rdE se g' g ∧ ((v = some (.int 0) ∧ bad (fun a b => cdsVal kc cf (rdF f g ((SS t1 + plc fa (SS (t1 + 1) - SS t1) a) * 6) (sec se fa (SS t2) n2 b))) (SS (t1 + 1) - SS t1) n2 i j (SS (t1 + 1) - SS t1) 0 ∧ ∃ i' j', h' U = some (oRu (.ref S) gv 0 1 (nI i') (nI j') tt rd)) ∨ (v = some (.int 1) ∧ ∃ i' j', i' < (SS (t1 + 1) - SS t1) ∧ j' < n2 ∧ bhd i j i' j' ∧ bad (fun a b => cdsVal kc cf (rdF f g ((SS t1 + plc fa (SS (t1 + 1) - SS t1) a) * 6) (sec se fa (SS t2) n2 b))) (SS (t1 + 1) - SS t1) n2 i j i' j' ∧ (fun a b => cdsVal kc cf (rdF f g ((SS t1 + plc fa (SS (t1 + 1) - SS t1) a) * 6) (sec se fa (SS t2) n2 b))) i' j' = true ∧ g' = rdF f g ((SS t1 + plc fa (SS (t1 + 1) - SS t1) i') * 6) (sec se fa (SS t2) n2 j') ∧ h' U = some (oRu (.ref S) (gv + 1) 1 0 (nI i') (nI (j' + 1)) tt rd)))) := by
  refine xM_of false (by decide) (fun h => nomatch h) (Nat.le_of_ble_eq_true rfl) (fun K C => ?_)
  show K 0 0 h 0 [(0, .ref U), (1, .ref B)] []
  have kp : xKeep [U, rd] h h := xKeep.rf
  obtain ⟨fB, fce, fco, fsr⟩ := pT
  refine x_aload_n C d_Ru_advance_0 rfl rfl ?_
  refine x_get C k_Ru f_Ru_27 d_Ru_advance_1 fU (by rfl) ?_
  refine x_if_eq (tgt := 9) C d_Ru_advance_4 rfl (fun q4 => ?_) (fun q4 => ?_)
  · skip
    refine x_iconst (v := 0) C d_Ru_advance_9 (by decide) ?_
    refine x_istore_n (lv' := [(2, _), (0, _), (1, _)]) C d_Ru_advance_10 rfl (by decide) (by rfl) ?_
    refine x_aload_n C d_Ru_advance_11 rfl rfl ?_
    refine x_get C k_Ru f_Ru_15 d_Ru_advance_12 fU (by rfl) ?_
    refine x_get C k_St f_Ru_36 d_Ru_advance_15 fS (by rfl) ?_
    refine x_tabOut (tgt := 98) C d_Ru_advance_18 (by decide) rfl ?_
    refine x_aload_n C d_Ru_advance_98 rfl rfl ?_
    refine x_get C k_Ru f_Ru_15 d_Ru_advance_99 fU (by rfl) ?_
    refine x_callV C l_Ru_61 v_St_hasTotal d_Ru_advance_102 (m_St_hasTotal fS) fS rfl (by rfl) (by rfl) (by decide) (by decide) (Nat.le_of_ble_eq_true rfl) ?_
    rintro v9 h9 ⟨rfl, rfl⟩
    refine x_if_eq (tgt := 116) C d_Ru_advance_105 rfl (fun q105 => ?_) (fun q105 => ?_)
    · skip
      replace q105 := bI_f q105
      refine x_aload_n C d_Ru_advance_116 rfl rfl ?_
      refine x_aload_n C d_Ru_advance_117 rfl rfl ?_
      refine x_callV C l_Ru_69 v_Ru_giveRow d_Ru_advance_118 (m_Ru_giveRow fS fpk fcd hnp hkc pO pC ⟨fB, fce, fco, fsr⟩ hS ht1 h2 frd hin fU hi hj) fU rfl (by rfl) (by rfl) (by decide) (by decide) (Nat.le_of_ble_eq_true rfl) ?_
      rintro v1 h1 ⟨g', kp1, frd', hE', ⟨rfl, hbad, i', j', hi', hj', fU'⟩ | ⟨rfl, i', j', hi', hj', hbh, hbad, hG, hg', fU'⟩⟩
      · skip
        have fS := kp1.get fS (nm_c (by first | assumption | exact Ne.symm (by assumption) | exact x_ne fS fU (by simp)) (nm_c (by first | assumption | exact Ne.symm (by assumption) | exact x_ne fS frd (by simp)) nm_n))
        have fpk := kp1.get fpk (nm_c (by first | assumption | exact Ne.symm (by assumption) | exact x_ne fpk fU (by simp)) (nm_c (by first | assumption | exact Ne.symm (by assumption) | exact x_ne fpk frd (by simp)) nm_n))
        have fcd := kp1.get fcd (nm_c (by first | assumption | exact Ne.symm (by assumption) | exact x_ne fcd fU (by simp)) (nm_c (by first | assumption | exact Ne.symm (by assumption) | exact x_ne fcd frd (by simp)) nm_n))
        have fB := kp1.get fB (nm_c (by first | assumption | exact Ne.symm (by assumption) | exact x_ne fB fU (by simp)) (nm_c (by first | assumption | exact Ne.symm (by assumption) | exact x_ne fB frd (by simp)) nm_n))
        have fce := kp1.get fce (nm_c (by first | assumption | exact Ne.symm (by assumption) | exact x_ne fce fU (by simp)) (nm_c (by first | assumption | exact Ne.symm (by assumption) | exact x_ne fce frd (by simp)) nm_n))
        have fco := kp1.get fco (nm_c (by first | assumption | exact Ne.symm (by assumption) | exact x_ne fco fU (by simp)) (nm_c (by first | assumption | exact Ne.symm (by assumption) | exact x_ne fco frd (by simp)) nm_n))
        have fsr := kp1.get fsr (nm_c (by first | assumption | exact Ne.symm (by assumption) | exact x_ne fsr fU (by simp)) (nm_c (by first | assumption | exact Ne.symm (by assumption) | exact x_ne fsr frd (by simp)) nm_n))
        have kp := kp.call kp1 (kc_c (Or.inl (by simp)) (kc_c (Or.inl (by simp)) kc_n))
        have fU := fU'
        have frd := frd'
        refine x_istore_n (lv' := [(2, _), (0, _), (1, _)]) C d_Ru_advance_121 rfl (by decide) (by rfl) ?_
        refine x_aload_n C d_Ru_advance_122 rfl rfl ?_
        refine x_iload_n C d_Ru_advance_123 rfl rfl ?_
        refine x_callV C l_Ru_72 v_Ru_note d_Ru_advance_124 (m_Ru_note fU _) fU rfl (by rfl) (by rfl) (by decide) (by decide) (Nat.le_of_ble_eq_true rfl) ?_
        rintro v2 h2 ⟨rfl, fU', kp2⟩
        have frd := kp2.get frd (nm_c (by first | assumption | exact Ne.symm (by assumption) | exact x_ne frd fU (by simp)) nm_n)
        have fS := kp2.get fS (nm_c (by first | assumption | exact Ne.symm (by assumption) | exact x_ne fS fU (by simp)) nm_n)
        have fpk := kp2.get fpk (nm_c (by first | assumption | exact Ne.symm (by assumption) | exact x_ne fpk fU (by simp)) nm_n)
        have fcd := kp2.get fcd (nm_c (by first | assumption | exact Ne.symm (by assumption) | exact x_ne fcd fU (by simp)) nm_n)
        have fB := kp2.get fB (nm_c (by first | assumption | exact Ne.symm (by assumption) | exact x_ne fB fU (by simp)) nm_n)
        have fce := kp2.get fce (nm_c (by first | assumption | exact Ne.symm (by assumption) | exact x_ne fce fU (by simp)) nm_n)
        have fco := kp2.get fco (nm_c (by first | assumption | exact Ne.symm (by assumption) | exact x_ne fco fU (by simp)) nm_n)
        have fsr := kp2.get fsr (nm_c (by first | assumption | exact Ne.symm (by assumption) | exact x_ne fsr fU (by simp)) nm_n)
        have kp := kp.call kp2 (kc_c (Or.inl (by simp)) kc_n)
        have fU := fU'
        refine x_iload_n C d_Ru_advance_127 rfl rfl ?_
        refine x_iret C d_Ru_advance_128 ?_
        first | exact ⟨g', kp, frd, hE', Or.inl ⟨rfl, hbad, i', j', by rw [fU]; rfl⟩⟩ | exact ⟨g', kp, frd, hE', Or.inr ⟨rfl, i', j', hi', hj', hbh, hbad, hG, hg', by rw [fU]; rfl⟩⟩
      · skip
        have fS := kp1.get fS (nm_c (by first | assumption | exact Ne.symm (by assumption) | exact x_ne fS fU (by simp)) (nm_c (by first | assumption | exact Ne.symm (by assumption) | exact x_ne fS frd (by simp)) nm_n))
        have fpk := kp1.get fpk (nm_c (by first | assumption | exact Ne.symm (by assumption) | exact x_ne fpk fU (by simp)) (nm_c (by first | assumption | exact Ne.symm (by assumption) | exact x_ne fpk frd (by simp)) nm_n))
        have fcd := kp1.get fcd (nm_c (by first | assumption | exact Ne.symm (by assumption) | exact x_ne fcd fU (by simp)) (nm_c (by first | assumption | exact Ne.symm (by assumption) | exact x_ne fcd frd (by simp)) nm_n))
        have fB := kp1.get fB (nm_c (by first | assumption | exact Ne.symm (by assumption) | exact x_ne fB fU (by simp)) (nm_c (by first | assumption | exact Ne.symm (by assumption) | exact x_ne fB frd (by simp)) nm_n))
        have fce := kp1.get fce (nm_c (by first | assumption | exact Ne.symm (by assumption) | exact x_ne fce fU (by simp)) (nm_c (by first | assumption | exact Ne.symm (by assumption) | exact x_ne fce frd (by simp)) nm_n))
        have fco := kp1.get fco (nm_c (by first | assumption | exact Ne.symm (by assumption) | exact x_ne fco fU (by simp)) (nm_c (by first | assumption | exact Ne.symm (by assumption) | exact x_ne fco frd (by simp)) nm_n))
        have fsr := kp1.get fsr (nm_c (by first | assumption | exact Ne.symm (by assumption) | exact x_ne fsr fU (by simp)) (nm_c (by first | assumption | exact Ne.symm (by assumption) | exact x_ne fsr frd (by simp)) nm_n))
        have kp := kp.call kp1 (kc_c (Or.inl (by simp)) (kc_c (Or.inl (by simp)) kc_n))
        have fU := fU'
        have frd := frd'
        refine x_istore_n (lv' := [(2, _), (0, _), (1, _)]) C d_Ru_advance_121 rfl (by decide) (by rfl) ?_
        refine x_aload_n C d_Ru_advance_122 rfl rfl ?_
        refine x_iload_n C d_Ru_advance_123 rfl rfl ?_
        refine x_callV C l_Ru_72 v_Ru_note d_Ru_advance_124 (m_Ru_note fU _) fU rfl (by rfl) (by rfl) (by decide) (by decide) (Nat.le_of_ble_eq_true rfl) ?_
        rintro v3 h3 ⟨rfl, fU', kp3⟩
        have frd := kp3.get frd (nm_c (by first | assumption | exact Ne.symm (by assumption) | exact x_ne frd fU (by simp)) nm_n)
        have fS := kp3.get fS (nm_c (by first | assumption | exact Ne.symm (by assumption) | exact x_ne fS fU (by simp)) nm_n)
        have fpk := kp3.get fpk (nm_c (by first | assumption | exact Ne.symm (by assumption) | exact x_ne fpk fU (by simp)) nm_n)
        have fcd := kp3.get fcd (nm_c (by first | assumption | exact Ne.symm (by assumption) | exact x_ne fcd fU (by simp)) nm_n)
        have fB := kp3.get fB (nm_c (by first | assumption | exact Ne.symm (by assumption) | exact x_ne fB fU (by simp)) nm_n)
        have fce := kp3.get fce (nm_c (by first | assumption | exact Ne.symm (by assumption) | exact x_ne fce fU (by simp)) nm_n)
        have fco := kp3.get fco (nm_c (by first | assumption | exact Ne.symm (by assumption) | exact x_ne fco fU (by simp)) nm_n)
        have fsr := kp3.get fsr (nm_c (by first | assumption | exact Ne.symm (by assumption) | exact x_ne fsr fU (by simp)) nm_n)
        have kp := kp.call kp3 (kc_c (Or.inl (by simp)) kc_n)
        have fU := fU'
        refine x_iload_n C d_Ru_advance_127 rfl rfl ?_
        refine x_iret C d_Ru_advance_128 ?_
        first | exact ⟨g', kp, frd, hE', Or.inl ⟨rfl, hbad, i', j', by rw [fU]; rfl⟩⟩ | exact ⟨g', kp, frd, hE', Or.inr ⟨rfl, i', j', hi', hj', hbh, hbad, hG, hg', by rw [fU]; rfl⟩⟩
    · skip
      replace q105 := bI_t q105
      exact absurd (by simpa using q105) hT
  · skip
    exact absurd rfl q4
