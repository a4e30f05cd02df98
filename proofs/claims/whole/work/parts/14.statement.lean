/-! CursorBase$Statement -/
set_option maxRecDepth 20000 in
set_option maxHeartbeats 1000000 in
theorem m_St_hasTotal {V : xV} {h : xH} {S nb pk cd : Nat} {vb ls fi se fa nc np kc : Int32} (fS : h S = some (oSt vb ls fi se fa nc nb np pk kc cd)) : xM V y_St_hasTotal b_St_hasTotal 1 (some .boolean) 0 [.ref S] h 0 0 (fun v h' => h' = h ∧ v = some (.int (bI (decide (ls = 5) || decide (ls = 6))))) := by
  refine xM_of false (by decide) (fun h => nomatch h) (Nat.le_of_ble_eq_true rfl) (fun K C => ?_)
  show K 0 0 h 0 [(0, .ref S)] []
  refine x_aload_n C d_St_hasTotal_0 rfl rfl ?_
  refine x_get C k_St f_St_9 d_St_hasTotal_1 fS (by rfl) ?_
  refine x_iconst (v := 5) C d_St_hasTotal_4 (by decide) ?_
  refine x_icmp_eq (tgt := 17) C d_St_hasTotal_5 rfl (fun q5 => ?_) (fun q5 => ?_)
  · skip
    refine x_iconst (v := 1) C d_St_hasTotal_17 (by decide) ?_
    refine x_goto (tgt := 22) C d_St_hasTotal_18 rfl ?_
    refine x_zret C d_St_hasTotal_22 (by rfl) ?_
    exact ⟨rfl, by simp [bI, *]⟩
  · skip
    refine x_aload_n C d_St_hasTotal_8 rfl rfl ?_
    refine x_get C k_St f_St_9 d_St_hasTotal_9 fS (by rfl) ?_
    refine x_bipush (v := 6) C d_St_hasTotal_12 (by decide) ?_
    refine x_icmp_ne (tgt := 21) C d_St_hasTotal_14 rfl (fun q14 => ?_) (fun q14 => ?_)
    · skip
      refine x_iconst (v := 0) C d_St_hasTotal_21 (by decide) ?_
      refine x_zret C d_St_hasTotal_22 (by rfl) ?_
      exact ⟨rfl, by simp [bI, *]⟩
    · skip
      refine x_iconst (v := 1) C d_St_hasTotal_17 (by decide) ?_
      refine x_goto (tgt := 22) C d_St_hasTotal_18 rfl ?_
      refine x_zret C d_St_hasTotal_22 (by rfl) ?_
      exact ⟨rfl, by simp [bI, *]⟩
set_option maxRecDepth 20000 in
set_option maxHeartbeats 1000000 in
theorem m_St_columnCount {V : xV} {h : xH} {S nb pk cd : Nat} {vb ls fi se fa nc np kc : Int32} (fS : h S = some (oSt vb ls fi se fa nc nb np pk kc cd)) : xM V y_St_columnCount b_St_columnCount 1 (some .int) 1 [.ref S] h 0 0 (fun v h' => h' = h ∧ v = some (.int (if ls = 5 ∨ ls = 6 then 1 else np))) := by
  refine xM_of false (by decide) (fun h => nomatch h) (Nat.le_of_ble_eq_true rfl) (fun K C => ?_)
  show K 0 0 h 0 [(0, .ref S)] []
  refine x_aload_n C d_St_columnCount_0 rfl rfl ?_
  refine x_callV C l_St_80 v_St_hasTotal d_St_columnCount_1 (m_St_hasTotal fS) fS rfl (by rfl) (by rfl) (by decide) (by decide) (Nat.le_of_ble_eq_true rfl) ?_
  rintro v h' ⟨rfl, rfl⟩
  refine x_if_eq (tgt := 11) C d_St_columnCount_4 rfl (fun q4 => ?_) (fun q4 => ?_)
  · skip
    replace q4 := bI_f q4
    refine x_aload_n C d_St_columnCount_11 rfl rfl ?_
    refine x_get C k_St f_St_40 d_St_columnCount_12 fS (by rfl) ?_
    refine x_iret C d_St_columnCount_15 ?_
    refine ⟨rfl, ?_⟩
    simp only [Bool.or_eq_true, Bool.or_eq_false_iff, decide_eq_true_eq, decide_eq_false_iff_not] at q4
    first | rw [if_pos q4] | rw [if_neg (fun z => z.elim q4.1 q4.2)]
  · skip
    replace q4 := bI_t q4
    refine x_iconst (v := 1) C d_St_columnCount_7 (by decide) ?_
    refine x_goto (tgt := 15) C d_St_columnCount_8 rfl ?_
    refine x_iret C d_St_columnCount_15 ?_
    refine ⟨rfl, ?_⟩
    simp only [Bool.or_eq_true, Bool.or_eq_false_iff, decide_eq_true_eq, decide_eq_false_iff_not] at q4
    first | rw [if_pos q4] | rw [if_neg (fun z => z.elim q4.1 q4.2)]
set_option maxRecDepth 20000 in
set_option maxHeartbeats 1000000 in
theorem m_St_addNumber {V : xV} {h : xH} {S nb pk cd nc : Nat} {vb ls fi se fa np kc : Int32} (fS : h S = some (oSt vb ls fi se fa (nI nc) nb np pk kc cd)) {g : Nat → Int32} (fnb : h nb = some (xI V 6 g)) (hn : nc < 1000) (x : Int32) : xM V y_St_addNumber b_St_addNumber 2 none 0 [.ref S, .int x] h 0 0 (fun v h' => v = none ∧ h' S = some (oSt vb ls fi se fa (nI (nc + 1)) nb np pk kc cd) ∧ h' nb = some (xI V 6 (if nc < 6 then upd g nc x else g)) ∧ xKeep [S, nb] h h') := by
  refine xM_of false (by decide) (fun h => nomatch h) (Nat.le_of_ble_eq_true rfl) (fun K C => ?_)
  show K 0 0 h 0 [(0, .ref S), (1, .int x)] []
  have kp : xKeep [S, nb] h h := xKeep.rf
  refine x_aload_n C d_St_addNumber_0 rfl rfl ?_
  refine x_get C k_St f_St_37 d_St_addNumber_1 fS (by rfl) ?_
  refine x_bipush (v := 6) C d_St_addNumber_4 (by decide) ?_
  refine x_icmp_ge (tgt := 19) C d_St_addNumber_6 rfl (fun q6 => ?_) (fun q6 => ?_)
  · skip
    have h6 := nge_of (b := 6) q6 (by decide)
    refine x_aload_n C d_St_addNumber_19 rfl rfl ?_
    refine x_dup C d_St_addNumber_20 rfl ?_
    refine x_get C k_St f_St_37 d_St_addNumber_21 fS (by rfl) ?_
    refine x_iconst (v := 1) C d_St_addNumber_24 (by decide) ?_
    refine x_iadd C d_St_addNumber_25 ?_
    refine x_put (fs' := [_, _, _, _, _, _, _, _, _, _, _]) C k_St f_St_37 d_St_addNumber_26 fS (by rfl) (by rfl) (by rfl) (Nat.le_of_ble_eq_true rfl) (by rfl) (fun h1 u1 => ?_)
    have fnb := xUp_ne u1 fnb (by first | assumption | exact Ne.symm (by assumption) | exact x_ne fnb fS (by simp))
    have fS := xUp_at u1
    have kp := kp.up u1 (by simp)
    refine x_vret C d_St_addNumber_29 ?_
    refine ⟨rfl, by rw [fS, nI_1], ?_, kp⟩
    first | (rw [if_pos h6, fnb, nI_clamp (by omega)]; done) | rw [if_neg (by omega), fnb]
  · skip
    have h6 := nlt_of (b := 6) q6 (by decide) (by omega)
    refine x_aload_n C d_St_addNumber_9 rfl rfl ?_
    refine x_get C k_St f_St_21 d_St_addNumber_10 fS (by rfl) ?_
    refine x_aload_n C d_St_addNumber_13 rfl rfl ?_
    refine x_get C k_St f_St_37 d_St_addNumber_14 fS (by rfl) ?_
    refine x_iload_n C d_St_addNumber_17 rfl rfl ?_
    refine x_iast C d_St_addNumber_18 fnb (vp_in_nI h6 (by decide)) (fun h2 u2 => ?_)
    have fS := xUp_ne u2 fS (by first | assumption | exact Ne.symm (by assumption) | exact x_ne fS fnb (by simp))
    have fnb := xUp_at u2
    have kp := kp.up u2 (by simp)
    refine x_aload_n C d_St_addNumber_19 rfl rfl ?_
    refine x_dup C d_St_addNumber_20 rfl ?_
    refine x_get C k_St f_St_37 d_St_addNumber_21 fS (by rfl) ?_
    refine x_iconst (v := 1) C d_St_addNumber_24 (by decide) ?_
    refine x_iadd C d_St_addNumber_25 ?_
    refine x_put (fs' := [_, _, _, _, _, _, _, _, _, _, _]) C k_St f_St_37 d_St_addNumber_26 fS (by rfl) (by rfl) (by rfl) (Nat.le_of_ble_eq_true rfl) (by rfl) (fun h3 u3 => ?_)
    have fnb := xUp_ne u3 fnb (by first | assumption | exact Ne.symm (by assumption) | exact x_ne fnb fS (by simp))
    have fS := xUp_at u3
    have kp := kp.up u3 (by simp)
    refine x_vret C d_St_addNumber_29 ?_
    refine ⟨rfl, by rw [fS, nI_1], ?_, kp⟩
    first | (rw [if_pos h6, fnb, nI_clamp (by omega)]; done) | rw [if_neg (by omega), fnb]
set_option maxRecDepth 20000 in
set_option maxHeartbeats 1000000 in
theorem m_St_addPick {V : xV} {h : xH} {S nb pk cd np : Nat} {vb ls fi se fa nc kc : Int32} (fS : h S = some (oSt vb ls fi se fa nc nb (nI np) pk kc cd)) {po : Nat → Option Nat} {pick : Nat → Int32} (fpk : h pk = some (xR V 2 12 po)) (hn : np < 12) (pO : pOps h po np pick) (x : Int32) : xM V y_St_addPick b_St_addPick 2 none 2 [.ref S, .int x] h 1 2 (fun v h' => v = none ∧ ∃ po', h' S = some (oSt vb ls fi se fa nc nb (nI (np + 1)) pk kc cd) ∧ h' pk = some (xR V 2 12 po') ∧ pOps h' po' (np + 1) (upd pick np x) ∧ xKeep [S, pk] h h') := by
  refine xM_of false (by decide) (fun h => nomatch h) (Nat.le_of_ble_eq_true rfl) (fun K C => ?_)
  show K 1 2 h 0 [(0, .ref S), (1, .int x)] []
  have kp : xKeep [S, pk] h h := xKeep.rf
  have hno : ∀ q ∈ [S, pk], ∀ e, h q = some e → nOp e = true := no_c fS rfl (no_c fpk rfl no_n)
  refine x_aload_n C d_St_addPick_0 rfl rfl ?_
  refine x_get C k_St f_St_40 d_St_addPick_1 fS (by rfl) ?_
  refine x_aload_n C d_St_addPick_4 rfl rfl ?_
  refine x_get C k_St f_St_27 d_St_addPick_5 fS (by rfl) ?_
  refine x_alenR (t := 2) C rfl d_St_addPick_8 fpk ?_
  refine x_icmp_ge (tgt := 40) C d_St_addPick_9 rfl (fun q9 => ?_) (fun q9 => ?_)
  · skip
    exact absurd (nge_of (b := 12) q9 (by decide)) (by omega)
  · skip
    refine x_aload_n C d_St_addPick_12 rfl rfl ?_
    refine x_get C k_St f_St_27 d_St_addPick_13 fS (by rfl) ?_
    refine x_aload_n C d_St_addPick_16 rfl rfl ?_
    refine x_get C k_St f_St_40 d_St_addPick_17 fS (by rfl) ?_
    refine x_new (fs := [.int 0, .int 0]) C k_Op ⟨c_St_25, n_Op.1, n_Op.2⟩ d_St_addPick_20 (by decide +revert) (fun o h1 n1 u1 => ?_)
    have x1_S := x_nn fS n1
    have x1_pk := x_nn fpk n1
    have fS := xUp_new u1 n1 fS
    have fpk := xUp_new u1 n1 fpk
    have z_o := kp.isn n1 (by simp only [List.mem_cons, List.not_mem_nil, or_false, not_or]; exact ⟨Ne.symm x1_S, Ne.symm x1_pk⟩)
    have kp := kp.upN u1 z_o
    have f_o := xUp_at u1
    refine x_dup C d_St_addPick_23 rfl ?_
    refine x_iconst (v := 2) C d_St_addPick_24 (by decide) ?_
    refine x_iload_n C d_St_addPick_25 rfl rfl ?_
    refine x_callI C l_St_43 v_Op_init d_St_addPick_26 (m_Op_init f_o 2 x) rfl (by rfl) (by rfl) (by decide) (by decide) (Nat.le_of_ble_eq_true rfl) ?_
    rintro v2 h2 ⟨rfl, f_o', kp2⟩
    have fS := kp2.get fS (nm_c (by first | assumption | exact Ne.symm (by assumption) | exact x_ne fS f_o (by simp)) nm_n)
    have fpk := kp2.get fpk (nm_c (by first | assumption | exact Ne.symm (by assumption) | exact x_ne fpk f_o (by simp)) nm_n)
    have kp := kp.call kp2 (kc_c (Or.inr z_o) kc_n)
    have f_o := f_o'
    refine x_aast (t := 2) C rfl rfl d_St_addPick_29 fpk f_o (vp_in_nI hn (by decide)) (fun h3 u3 => ?_)
    have fS := xUp_ne u3 fS (by first | assumption | exact Ne.symm (by assumption) | exact x_ne fS fpk (by simp))
    have f_o := xUp_ne u3 f_o (by first | assumption | exact Ne.symm (by assumption) | exact x_ne f_o fpk (by simp))
    have fpk := xUp_at u3
    have kp := kp.up u3 (by simp)
    refine x_aload_n C d_St_addPick_30 rfl rfl ?_
    refine x_dup C d_St_addPick_31 rfl ?_
    refine x_get C k_St f_St_40 d_St_addPick_32 fS (by rfl) ?_
    refine x_iconst (v := 1) C d_St_addPick_35 (by decide) ?_
    refine x_iadd C d_St_addPick_36 ?_
    refine x_put (fs' := [_, _, _, _, _, _, _, _, _, _, _]) C k_St f_St_40 d_St_addPick_37 fS (by rfl) (by rfl) (by rfl) (Nat.le_of_ble_eq_true rfl) (by rfl) (fun h4 u4 => ?_)
    have fpk := xUp_ne u4 fpk (by first | assumption | exact Ne.symm (by assumption) | exact x_ne fpk fS (by simp))
    have f_o := xUp_ne u4 f_o (by first | assumption | exact Ne.symm (by assumption) | exact x_ne f_o fS (by simp))
    have fS := xUp_at u4
    have kp := kp.up u4 (by simp)
    refine x_vret C d_St_addPick_40 ?_
    refine ⟨rfl, _, by rw [fS, nI_1], fpk, lt_s (fun i hi => ?_) ?_, kp⟩
    · obtain ⟨a, h1, h2⟩ := pO i hi
      exact ⟨a, by rw [nI_clamp (by omega), va_up_ne _ _ (by omega)]; exact h1, by rw [pk_un (by omega)]; exact kp.ops hno a _ h2 rfl⟩
    · exact ⟨o, by rw [nI_clamp (by omega)]; exact va_up_self _ _ _, by rw [pk_us]; exact f_o⟩
set_option maxRecDepth 20000 in
set_option maxHeartbeats 1000000 in
theorem m_St_addCondition {V : xV} {h : xH} {S nb pk cd kc : Nat} {vb ls fi se fa nc np : Int32} (fS : h S = some (oSt vb ls fi se fa nc nb np pk (nI kc) cd)) {co : Nat → Option Nat} {cf : Nat → tCd} (fcd : h cd = some (xR V 3 8 co)) (hn : kc < 8) (pC : pCds h co kc cf) {q : Nat} {dd : tCd} (pq : pCd h q dd) : xM V y_St_addCondition b_St_addCondition 2 none 0 [.ref S, .ref q] h 0 0 (fun v h' => v = none ∧ ∃ co', h' S = some (oSt vb ls fi se fa nc nb np pk (nI (kc + 1)) cd) ∧ h' cd = some (xR V 3 8 co') ∧ pCds h' co' (kc + 1) (va_up cf kc dd) ∧ xKeep [S, cd] h h') := by
  refine xM_of false (by decide) (fun h => nomatch h) (Nat.le_of_ble_eq_true rfl) (fun K C => ?_)
  show K 0 0 h 0 [(0, .ref S), (1, .ref q)] []
  have kp : xKeep [S, cd] h h := xKeep.rf
  have hno : ∀ q ∈ [S, cd], ∀ e, h q = some e → nOp e = true := no_c fS rfl (no_c fcd rfl no_n)
  have pq0 := pq
  obtain ⟨a0, b0, fq, -, -⟩ := pq
  refine x_aload_n C d_St_addCondition_0 rfl rfl ?_
  refine x_get C k_St f_St_46 d_St_addCondition_1 fS (by rfl) ?_
  refine x_bipush (v := 8) C d_St_addCondition_4 (by decide) ?_
  refine x_icmp_ge (tgt := 29) C d_St_addCondition_6 rfl (fun q6 => ?_) (fun q6 => ?_)
  · skip
    exact absurd (nge_of (b := 8) q6 (by decide)) (by omega)
  · skip
    refine x_aload_n C d_St_addCondition_9 rfl rfl ?_
    refine x_get C k_St f_St_33 d_St_addCondition_10 fS (by rfl) ?_
    refine x_aload_n C d_St_addCondition_13 rfl rfl ?_
    refine x_get C k_St f_St_46 d_St_addCondition_14 fS (by rfl) ?_
    refine x_aload_n C d_St_addCondition_17 rfl rfl ?_
    refine x_aast (t := 3) C rfl rfl d_St_addCondition_18 fcd fq (vp_in_nI hn (by decide)) (fun h1 u1 => ?_)
    have fS := xUp_ne u1 fS (by first | assumption | exact Ne.symm (by assumption) | exact x_ne fS fcd (by simp))
    have fq := xUp_ne u1 fq (by first | assumption | exact Ne.symm (by assumption) | exact x_ne fq fcd (by simp))
    have fcd := xUp_at u1
    have kp := kp.up u1 (by simp)
    refine x_aload_n C d_St_addCondition_19 rfl rfl ?_
    refine x_dup C d_St_addCondition_20 rfl ?_
    refine x_get C k_St f_St_46 d_St_addCondition_21 fS (by rfl) ?_
    refine x_iconst (v := 1) C d_St_addCondition_24 (by decide) ?_
    refine x_iadd C d_St_addCondition_25 ?_
    refine x_put (fs' := [_, _, _, _, _, _, _, _, _, _, _]) C k_St f_St_46 d_St_addCondition_26 fS (by rfl) (by rfl) (by rfl) (Nat.le_of_ble_eq_true rfl) (by rfl) (fun h2 u2 => ?_)
    have fcd := xUp_ne u2 fcd (by first | assumption | exact Ne.symm (by assumption) | exact x_ne fcd fS (by simp))
    have fq := xUp_ne u2 fq (by first | assumption | exact Ne.symm (by assumption) | exact x_ne fq fS (by simp))
    have fS := xUp_at u2
    have kp := kp.up u2 (by simp)
    refine x_vret C d_St_addCondition_29 ?_
    refine ⟨rfl, _, by rw [fS, nI_1], fcd, lt_s (fun i hi => ?_) ?_, kp⟩
    · obtain ⟨a, h1, h2⟩ := pC i hi
      exact ⟨a, by rw [nI_clamp (by omega), va_up_ne _ _ (by omega)]; exact h1, by rw [va_up_ne _ _ (by omega)]; exact h2.keep (kp.ops hno)⟩
    · exact ⟨q, by rw [nI_clamp (by omega)]; exact va_up_self _ _ _, by rw [va_up_self]; exact pq0.keep (kp.ops hno)⟩
set_option maxRecDepth 20000 in
set_option maxHeartbeats 1000000 in
theorem m_St_init {V : xV} {h : xH} {S : Nat} (fS : h S = some (.inr (4, [.int 0, .int 0, .int 0, .int 0, .int 0, .int 0, .null, .int 0, .null, .int 0, .null]))) : xM V y_St_init b_St_init 1 none 1 [.ref S] h 3 26 (fun v h' => v = none ∧ ∃ nb pk cd, h' S = some (oSt 0 (-1) (-1) (-1) 0 0 nb 0 pk 0 cd) ∧ h' nb = some (xI V 6 (fun _ => 0)) ∧ h' pk = some (xR V 2 12 (fun _ => none)) ∧ h' cd = some (xR V 3 8 (fun _ => none)) ∧ h nb = none ∧ h pk = none ∧ h cd = none ∧ xKeep [S] h h') := by
  refine xM_of true (by decide) (fun _ => rfl) (Nat.le_of_ble_eq_true rfl) (fun K C => ?_)
  show K 3 26 h 0 [(0, .ref S)] []
  have kp : xKeep [S] h h := xKeep.rf
  refine x_aload_n C d_St_init_0 rfl rfl ?_
  refine x_objInit C ⟨l_St_3, oi_i, oi_c⟩ (by decide) (Nat.le_of_ble_eq_true rfl) d_St_init_1 ?_
  refine x_aload_n C d_St_init_4 rfl rfl ?_
  refine x_iconst (v := -1) C d_St_init_5 (by decide) ?_
  refine x_put (fs' := [_, _, _, _, _, _, _, _, _, _, _]) C k_St f_St_9 d_St_init_6 fS (by rfl) (by rfl) (by rfl) (Nat.le_of_ble_eq_true rfl) (by rfl) (fun h1 u1 => ?_)
  have fS := xUp_at u1
  have kp := kp.up u1 (by simp)
  refine x_aload_n C d_St_init_9 rfl rfl ?_
  refine x_iconst (v := -1) C d_St_init_10 (by decide) ?_
  refine x_put (fs' := [_, _, _, _, _, _, _, _, _, _, _]) C k_St f_St_15 d_St_init_11 fS (by rfl) (by rfl) (by rfl) (Nat.le_of_ble_eq_true rfl) (by rfl) (fun h2 u2 => ?_)
  have fS := xUp_at u2
  have kp := kp.up u2 (by simp)
  refine x_aload_n C d_St_init_14 rfl rfl ?_
  refine x_iconst (v := -1) C d_St_init_15 (by decide) ?_
  refine x_put (fs' := [_, _, _, _, _, _, _, _, _, _, _]) C k_St f_St_18 d_St_init_16 fS (by rfl) (by rfl) (by rfl) (Nat.le_of_ble_eq_true rfl) (by rfl) (fun h3 u3 => ?_)
  have fS := xUp_at u3
  have kp := kp.up u3 (by simp)
  refine x_aload_n C d_St_init_19 rfl rfl ?_
  refine x_bipush (v := 6) C d_St_init_20 (by decide) ?_
  refine x_newI (N := 6) C ac_int d_St_init_22 (by decide) (by decide) (by decide) (fun nb h4 n4 u4 => ?_)
  have x4_S := x_nn fS n4
  have fS := xUp_new u4 n4 fS
  have z_nb := kp.isn n4 (by simp only [List.mem_cons, List.not_mem_nil, or_false, not_or]; exact Ne.symm x4_S)
  have kp := kp.upN u4 z_nb
  have f_nb := xUp_at u4
  refine x_putF (fs' := [_, _, _, _, _, _, _, _, _, _, _]) C k_St g_St_21 d_St_init_24 fS (by rfl) (by rfl) (by rfl) (Nat.le_of_ble_eq_true rfl) (by rfl) (fun h5 u5 => ?_)
  have f_nb := xUp_ne u5 f_nb (by first | assumption | exact Ne.symm (by assumption) | exact x_ne f_nb fS (by simp))
  have fS := xUp_at u5
  have kp := kp.up u5 (by simp)
  refine x_aload_n C d_St_init_27 rfl rfl ?_
  refine x_bipush (v := 12) C d_St_init_28 (by decide) ?_
  refine x_newR (t := 2) (N := 12) C rfl (by first | exact Or.inl rfl | exact Or.inr rfl) c_St_25 d_St_init_30 (by decide) (by decide) (by decide) (fun pk h6 n6 u6 => ?_)
  have x6_S := x_nn fS n6
  have x6_nb := x_nn f_nb n6
  have fS := xUp_new u6 n6 fS
  have f_nb := xUp_new u6 n6 f_nb
  have z_pk := kp.isn n6 (by simp only [List.mem_cons, List.not_mem_nil, or_false, not_or]; exact Ne.symm x6_S)
  have kp := kp.upN u6 z_pk
  have f_pk := xUp_at u6
  refine x_putF (fs' := [_, _, _, _, _, _, _, _, _, _, _]) C k_St g_St_27 d_St_init_33 fS (by rfl) (by rfl) (by rfl) (Nat.le_of_ble_eq_true rfl) (by rfl) (fun h7 u7 => ?_)
  have f_nb := xUp_ne u7 f_nb (by first | assumption | exact Ne.symm (by assumption) | exact x_ne f_nb fS (by simp))
  have f_pk := xUp_ne u7 f_pk (by first | assumption | exact Ne.symm (by assumption) | exact x_ne f_pk fS (by simp))
  have fS := xUp_at u7
  have kp := kp.up u7 (by simp)
  refine x_aload_n C d_St_init_36 rfl rfl ?_
  refine x_bipush (v := 8) C d_St_init_37 (by decide) ?_
  refine x_newR (t := 3) (N := 8) C rfl (by first | exact Or.inl rfl | exact Or.inr rfl) c_St_31 d_St_init_39 (by decide) (by decide) (by decide) (fun cd h8 n8 u8 => ?_)
  have x8_S := x_nn fS n8
  have x8_nb := x_nn f_nb n8
  have x8_pk := x_nn f_pk n8
  have fS := xUp_new u8 n8 fS
  have f_nb := xUp_new u8 n8 f_nb
  have f_pk := xUp_new u8 n8 f_pk
  have z_cd := kp.isn n8 (by simp only [List.mem_cons, List.not_mem_nil, or_false, not_or]; exact Ne.symm x8_S)
  have kp := kp.upN u8 z_cd
  have f_cd := xUp_at u8
  refine x_putF (fs' := [_, _, _, _, _, _, _, _, _, _, _]) C k_St g_St_33 d_St_init_42 fS (by rfl) (by rfl) (by rfl) (Nat.le_of_ble_eq_true rfl) (by rfl) (fun h9 u9 => ?_)
  have f_nb := xUp_ne u9 f_nb (by first | assumption | exact Ne.symm (by assumption) | exact x_ne f_nb fS (by simp))
  have f_pk := xUp_ne u9 f_pk (by first | assumption | exact Ne.symm (by assumption) | exact x_ne f_pk fS (by simp))
  have f_cd := xUp_ne u9 f_cd (by first | assumption | exact Ne.symm (by assumption) | exact x_ne f_cd fS (by simp))
  have fS := xUp_at u9
  have kp := kp.up u9 (by simp)
  refine x_vret C d_St_init_45 ?_
  exact ⟨rfl, nb, pk, cd, fS, f_nb, f_pk, f_cd, z_nb, z_pk, z_cd, kp⟩
