/-! CursorBase$Statement -/
set_option maxRecDepth 20000 in
set_option maxHeartbeats 1000000 in
theorem m_St_hasTotal {V : xV} {h : xH} {S nb pk cd : Nat} {vb ls fi se fa nc np kc : Int32} (fS : h S = some (oSt vb ls fi se fa nc nb np pk kc cd)) : xM V y_St_hasTotal b_St_hasTotal 1 (some .boolean) 0 [.ref S] h 0 0 (fun v h' => h' = h ∧ v = some (.int (bI (decide (ls = 5) || decide (ls = 6))))) := by
  refine xM_of false (by decide) (fun h => nomatch h) (Nat.le_of_ble_eq_true rfl) (fun K C => ?_)
  show K 0 0 h 0 [(0, .ref S)] []
  refine x_aload_n C d_St_hasTotal_0 rfl rfl ?_
  refine x_get C k_St f_St_9 d_St_hasTotal_1 fS (by rfl) ?_
  refine x_iconst (v := 5) C d_St_hasTotal_4 (by decide) ?_
  refine x_icmp_eq (tgt := 17) C d_St_hasTotal_5 rfl (fun q5 => ?_) (fun q5 => ?_)
  · skip
    refine x_iconst (v := 1) C d_St_hasTotal_17 (by decide) ?_
    refine x_goto (tgt := 22) C d_St_hasTotal_18 rfl ?_
    refine x_zret C d_St_hasTotal_22 (by rfl) ?_
    exact ⟨rfl, by simp [bI, *]⟩
  · skip
    refine x_aload_n C d_St_hasTotal_8 rfl rfl ?_
    refine x_get C k_St f_St_9 d_St_hasTotal_9 fS (by rfl) ?_
    refine x_bipush (v := 6) C d_St_hasTotal_12 (by decide) ?_
    refine x_icmp_ne (tgt := 21) C d_St_hasTotal_14 rfl (fun q14 => ?_) (fun q14 => ?_)
    · skip
      refine x_iconst (v := 0) C d_St_hasTotal_21 (by decide) ?_
      refine x_zret C d_St_hasTotal_22 (by rfl) ?_
      exact ⟨rfl, by simp [bI, *]⟩
    · skip
      refine x_iconst (v := 1) C d_St_hasTotal_17 (by decide) ?_
      refine x_goto (tgt := 22) C d_St_hasTotal_18 rfl ?_
      refine x_zret C d_St_hasTotal_22 (by rfl) ?_
      exact ⟨rfl, by simp [bI, *]⟩
set_option maxRecDepth 20000 in
set_option maxHeartbeats 1000000 in
theorem m_St_columnCount {V : xV} {h : xH} {S nb pk cd : Nat} {vb ls fi se fa nc np kc : Int32} (fS : h S = some (oSt vb ls fi se fa nc nb np pk kc cd)) : xM V y_St_columnCount b_St_columnCount 1 (some .int) 1 [.ref S] h 0 0 (fun v h' => h' = h ∧ v = some (.int (if ls = 5 ∨ ls = 6 then 1 else np))) := by
  refine xM_of false (by decide) (fun h => nomatch h) (Nat.le_of_ble_eq_true rfl) (fun K C => ?_)
  show K 0 0 h 0 [(0, .ref S)] []
  refine x_aload_n C d_St_columnCount_0 rfl rfl ?_
  refine x_callV C l_St_80 v_St_hasTotal d_St_columnCount_1 (m_St_hasTotal fS) fS rfl (by rfl) (by rfl) (by decide) (by decide) (Nat.le_of_ble_eq_true rfl) ?_
  rintro v h' ⟨rfl, rfl⟩
  refine x_if_eq (tgt := 11) C d_St_columnCount_4 rfl (fun q4 => ?_) (fun q4 => ?_)
  · skip
    replace q4 := bI_f q4
    refine x_aload_n C d_St_columnCount_11 rfl rfl ?_
    refine x_get C k_St f_St_40 d_St_columnCount_12 fS (by rfl) ?_
    refine x_iret C d_St_columnCount_15 ?_
    refine ⟨rfl, ?_⟩
    simp only [Bool.or_eq_true, Bool.or_eq_false_iff, decide_eq_true_eq, decide_eq_false_iff_not] at q4
    first | rw [if_pos q4] | rw [if_neg (fun z => z.elim q4.1 q4.2)]
  · skip
    replace q4 := bI_t q4
    refine x_iconst (v := 1) C d_St_columnCount_7 (by decide) ?_
    refine x_goto (tgt := 15) C d_St_columnCount_8 rfl ?_
    refine x_iret C d_St_columnCount_15 ?_
    refine ⟨rfl, ?_⟩
    simp only [Bool.or_eq_true, Bool.or_eq_false_iff, decide_eq_true_eq, decide_eq_false_iff_not] at q4
    first | rw [if_pos q4] | rw [if_neg (fun z => z.elim q4.1 q4.2)]
set_option maxRecDepth 20000 in
set_option maxHeartbeats 1000000 in
theorem m_St_addNumber {V : xV} {h : xH} {S nb pk cd nc : Nat} {vb ls fi se fa np kc : Int32} (fS : h S = some (oSt vb ls fi se fa (nI nc) nb np pk kc cd)) {g : Nat → Int32} (fnb : h nb = some (xI V 6 g)) (hn : nc < 1000) (x : Int32) : xM V y_St_addNumber b_St_addNumber 2 none 0 [.ref S, .int x] h 0 0 (fun v h' => v = none ∧ h' S = some (oSt vb ls fi se fa (nI (nc + 1)) nb np pk kc cd) ∧ h' nb = some (xI V 6 (if nc < 6 then upd g nc x else g)) ∧ xKeep [S, nb] h h') := by
  refine xM_of false (by decide) (fun h => nomatch h) (Nat.le_of_ble_eq_true rfl) (fun K C => ?_)
  show K 0 0 h 0 [(0, .ref S), (1, .int x)] []
  have kp : xKeep [S, nb] h h := xKeep.rf
  refine x_aload_n C d_St_addNumber_0 rfl rfl ?_
  refine x_get C k_St f_St_37 d_St_addNumber_1 fS (by rfl) ?_
  refine x_bipush (v := 6) C d_St_addNumber_4 (by decide) ?_
  refine x_icmp_ge (tgt := 19) C d_St_addNumber_6 rfl (fun q6 => ?_) (fun q6 => ?_)
  · skip
    have h6 := nge_of (b := 6) q6 (by decide)
    refine x_aload_n C d_St_addNumber_19 rfl rfl ?_
    refine x_dup C d_St_addNumber_20 rfl ?_
    refine x_get C k_St f_St_37 d_St_addNumber_21 fS (by rfl) ?_
    refine x_iconst (v := 1) C d_St_addNumber_24 (by decide) ?_
    refine x_iadd C d_St_addNumber_25 ?_
    refine x_put (fs' := [_, _, _, _, _, _, _, _, _, _, _]) C k_St f_St_37 d_St_addNumber_26 fS (by rfl) (by rfl) (by rfl) (Nat.le_of_ble_eq_true rfl) (by rfl) (fun h1 u1 => ?_)
    have fnb := xUp_ne u1 fnb (by first | assumption | exact Ne.symm (by assumption) | exact x_ne fnb fS (by simp))
    have fS := xUp_at u1
    have kp := kp.up u1 (by simp)
    refine x_vret C d_St_addNumber_29 ?_
    refine ⟨rfl, by rw [fS, nI_1], ?_, kp⟩
    first | (rw [if_pos h6, fnb, nI_clamp (by omega)]; done) | rw [if_neg (by omega), fnb]
  · skip
    have h6 := nlt_of (b := 6) q6 (by decide) (by omega)
    refine x_aload_n C d_St_addNumber_9 rfl rfl ?_
    refine x_get C k_St f_St_21 d_St_addNumber_10 fS (by rfl) ?_
    refine x_aload_n C d_St_addNumber_13 rfl rfl ?_
    refine x_get C k_St f_St_37 d_St_addNumber_14 fS (by rfl) ?_
    refine x_iload_n C d_St_addNumber_17 rfl rfl ?_
    refine x_iast C d_St_addNumber_18 fnb (vp_in_nI h6 (by decide)) (fun h2 u2 => ?_)
    have fS := xUp_ne u2 fS (by first | assumption | exact Ne.symm (by assumption) | exact x_ne fS fnb (by simp))
    have fnb := xUp_at u2
    have kp := kp.up u2 (by simp)
    refine x_aload_n C d_St_addNumber_19 rfl rfl ?_
    refine x_dup C d_St_addNumber_20 rfl ?_
    refine x_get C k_St f_St_37 d_St_addNumber_21 fS (by rfl) ?_
    refine x_iconst (v := 1) C d_St_addNumber_24 (by decide) ?_
    refine x_iadd C d_St_addNumber_25 ?_
    refine x_put (fs' := [_, _, _, _, _, _, _, _, _, _, _]) C k_St f_St_37 d_St_addNumber_26 fS (by rfl) (by rfl) (by rfl) (Nat.le_of_ble_eq_true rfl) (by rfl) (fun h3 u3 => ?_)
    have fnb := xUp_ne u3 fnb (by first | assumption | exact Ne.symm (by assumption) | exact x_ne fnb fS (by simp))
    have fS := xUp_at u3
    have kp := kp.up u3 (by simp)
    refine x_vret C d_St_addNumber_29 ?_
    refine ⟨rfl, by rw [fS, nI_1], ?_, kp⟩
    first | (rw [if_pos h6, fnb, nI_clamp (by omega)]; done) | rw [if_neg (by omega), fnb]
set_option maxRecDepth 20000 in
set_option maxHeartbeats 1000000 in
theorem m_St_addPick {V : xV} {h : xH} {S nb pk cd np : Nat} {vb ls fi se fa nc kc : Int32} (fS : h S = some (oSt vb ls fi se fa nc nb (nI np) pk kc cd)) {po : Nat → Option Nat} {pick : Nat → Int32} (fpk : h pk = some (xR V 2 12 po)) (hn : np < 12) (pO : pOps h po np pick) (x : Int32) : xM V y_St_addPick b_St_addPick 2 none 2 [.ref S, .int x] h 1 2 (fun v h' => v = none ∧ ∃ po', h' S = some (oSt vb ls fi se fa nc nb (nI (np + 1)) pk kc cd) ∧ h' pk = some (xR V 2 12 po') ∧ pOps h' po' (np + 1) (upd pick np x) ∧ xKeep [S, pk] h h') := by
  refine xM_of false (by decide) (fun h => nomatch h) (Nat.le_of_ble_eq_true rfl) (fun K C => ?_)
  show K 1 2 h 0 [(0, .ref S), (1, .int x)] []
  have kp : xKeep [S, pk] h h := xKeep.rf
  have hno : ∀ q ∈ [S, pk], ∀ e, h q = some e → nOp e = true := no_c fS rfl (no_c fpk rfl no_n)
  refine x_aload_n C d_St_addPick_0 rfl rfl ?_
  refine x_get C k_St f_St_40 d_St_addPick_1 fS (by rfl) ?_
  refine x_aload_n C d_St_addPick_4 rfl rfl ?_
  refine x_get C k_St f_St_27 d_St_addPick_5 fS (by rfl) ?_
  refine x_alenR (t := 2) C rfl d_St_addPick_8 fpk ?_
  refine x_icmp_ge (tgt := 40) C d_St_addPick_9 rfl (fun q9 => ?_) (fun q9 => ?_)
  · skip
    exact absurd (nge_of (b := 12) q9 (by decide)) (by omega)
  · skip
    refine x_aload_n C d_St_addPick_12 rfl rfl ?_
    refine x_get C k_St f_St_27 d_St_addPick_13 fS (by rfl) ?_
    refine x_aload_n C d_St_addPick_16 rfl rfl ?_
    refine x_get C k_St f_St_40 d_St_addPick_17 fS (by rfl) ?_
    refine x_new (fs := [.int 0, .int 0]) C k_Op ⟨c_St_25, n_Op.1, n_Op.2⟩ d_St_addPick_20 (by decide +revert) (fun o h1 n1 u1 => ?_)
    have x1_S := x_nn fS n1
    have x1_pk := x_nn fpk n1
    have fS := xUp_new u1 n1 fS
    have fpk := xUp_new u1 n1 fpk
    have z_o := kp.isn n1 (by simp only [List.mem_cons, List.not_mem_nil, or_false, not_or]; exact ⟨Ne.symm x1_S, Ne.symm x1_pk⟩)
    have kp := kp.upN u1 z_o
    have f_o := xUp_at u1
    refine x_dup C d_St_addPick_23 rfl ?_
    refine x_iconst (v := 2) C d_St_addPick_24 (by decide) ?_
    refine x_iload_n C d_St_addPick_25 rfl rfl ?_
    refine x_callI C l_St_43 v_Op_init d_St_addPick_26 (m_Op_init f_o 2 x) rfl (by rfl) (by rfl) (by decide) (by decide) (Nat.le_of_ble_eq_true rfl) ?_
    rintro v2 h2 ⟨rfl, f_o', kp2⟩
    have fS := kp2.get fS (nm_c (by first | assumption | exact Ne.symm (by assumption) | exact x_ne fS f_o (by simp)) nm_n)
    have fpk := kp2.get fpk (nm_c (by first | assumption | exact Ne.symm (by assumption) | exact x_ne fpk f_o (by simp)) nm_n)
    have kp := kp.call kp2 (kc_c (Or.inr z_o) kc_n)
    have f_o := f_o'
    refine x_aast (t := 2) C rfl rfl d_St_addPick_29 fpk f_o (vp_in_nI hn (by decide)) (fun h3 u3 => ?_)
    have fS := xUp_ne u3 fS (by first | assumption | exact Ne.symm (by assumption) | exact x_ne fS fpk (by simp))
    have f_o := xUp_ne u3 f_o (by first | assumption | exact Ne.symm (by assumption) | exact x_ne f_o fpk (by simp))
    have fpk := xUp_at u3
    have kp := kp.up u3 (by simp)
    refine x_aload_n C d_St_addPick_30 rfl rfl ?_
    refine x_dup C d_St_addPick_31 rfl ?_
    refine x_get C k_St f_St_40 d_St_addPick_32 fS (by rfl) ?_
    refine x_iconst (v := 1) C d_St_addPick_35 (by decide) ?_
    refine x_iadd C d_St_addPick_36 ?_
    refine x_put (fs' := [_, _, _, _, _, _, _, _, _, _, _]) C k_St f_St_40 d_St_addPick_37 fS (by rfl) (by rfl) (by rfl) (Nat.le_of_ble_eq_true rfl) (by rfl) (fun h4 u4 => ?_)
    have fpk := xUp_ne u4 fpk (by first | assumption | exact Ne.symm (by assumption) | exact x_ne fpk fS (by simp))
    have f_o := xUp_ne u4 f_o (by first | assumption | exact Ne.symm (by assumption) | exact x_ne f_o fS (by simp))
    have fS := xUp_at u4
    have kp := kp.up u4 (by simp)
    refine x_vret C d_St_addPick_40 ?_
    refine ⟨rfl, _, by rw [fS, nI_1], fpk, lt_s (fun i hi => ?_) ?_, kp⟩
    · obtain ⟨a, h1, h2⟩ := pO i hi
      exact ⟨a, by rw [nI_clamp (by omega), va_up_ne _ _ (by omega)]; exact h1, by rw [pk_un (by omega)]; exact kp.ops hno a _ h2 rfl⟩
    · exact ⟨o, by rw [nI_clamp (by omega)]; exact va_up_self _ _ _, by rw [pk_us]; exact f_o⟩
set_option maxRecDepth 20000 in
set_option maxHeartbeats 1000000 in
theorem m_St_addCondition {V : xV} {h : xH} {S nb pk cd kc : Nat} {vb ls fi se fa nc np : Int32} (fS : h S = some (oSt vb ls fi se fa nc nb np pk (nI kc) cd)) {co : Nat → Option Nat} {cf : Nat → tCd} (fcd : h cd = some (xR V 3 8 co)) (hn : kc < 8) (pC : pCds h co kc cf) {q : Nat} {dd : tCd} (pq : pCd h q dd) : xM V y_St_addCondition b_St_addCondition 2 none 0 [.ref S, .ref q] h 0 0 (fun v h' => v = none ∧ ∃ co', h' S = some (oSt vb ls fi se fa nc nb np pk (nI (kc + 1)) cd) ∧ h' cd = some (xR V 3 8 co') ∧ pCds h' co' (kc + 1) (va_up cf kc dd) ∧ xKeep [S, cd] h h') := by
  refine xM_of false (by decide) (fun h => nomatch h) (Nat.le_of_ble_eq_true rfl) (fun K C => ?_)
  show K 0 0 h 0 [(0, .ref S), (1, .ref q)] []
  have kp : xKeep [S, cd] h h := xKeep.rf
  have hno : ∀ q ∈ [S, cd], ∀ e, h q = some e → nOp e = true := no_c fS rfl (no_c fcd rfl no_n)
  have pq0 := pq
  obtain ⟨a0, b0, fq, -, -⟩ := pq
  refine x_aload_n C d_St_addCondition_0 rfl rfl ?_
  refine x_get C k_St f_St_46 d_St_addCondition_1 fS (by rfl) ?_
  refine x_bipush (v := 8) C d_St_addCondition_4 (by decide) ?_
  refine x_icmp_ge (tgt := 29) C d_St_addCondition_6 rfl (fun q6 => ?_) (fun q6 => ?_)
  · skip
    exact absurd (nge_of (b := 8) q6 (by decide)) (by omega)
  · skip
    refine x_aload_n C d_St_addCondition_9 rfl rfl ?_
    refine x_get C k_St f_St_33 d_St_addCondition_10 fS (by rfl) ?_
    refine x_aload_n C d_St_addCondition_13 rfl rfl ?_
    refine x_get C k_St f_St_46 d_St_addCondition_14 fS (by rfl) ?_
    refine x_aload_n C d_St_addCondition_17 rfl rfl ?_
    refine x_aast (t := 3) C rfl rfl d_St_addCondition_18 fcd fq (vp_in_nI hn (by decide)) (fun h1 u1 => ?_)
    have fS := xUp_ne u1 fS (by first | assumption | exact Ne.symm (by assumption) | exact x_ne fS fcd (by simp))
    have fq := xUp_ne u1 fq (by first | assumption | exact Ne.symm (by assumption) | exact x_ne fq fcd (by simp))
    have fcd := xUp_at u1
    have kp := kp.up u1 (by simp)
    refine x_aload_n C d_St_addCondition_19 rfl rfl ?_
    refine x_dup C d_St_addCondition_20 rfl ?_
    refine x_get C k_St f_St_46 d_St_addCondition_21 fS (by rfl) ?_
    refine x_iconst (v := 1) C d_St_addCondition_24 (by decide) ?_
    refine x_iadd C d_St_addCondition_25 ?_
    refine x_put (fs' := [_, _, _, _, _, _, _, _, _, _, _]) C k_St f_St_46 d_St_addCondition_26 fS (by rfl) (by rfl) (by rfl) (Nat.le_of_ble_eq_true rfl) (by rfl) (fun h2 u2 => ?_)
    have fcd := xUp_ne u2 fcd (by first | assumption | exact Ne.symm (by assumption) | exact x_ne fcd fS (by simp))
    have fq := xUp_ne u2 fq (by first | assumption | exact Ne.symm (by assumption) | exact x_ne fq fS (by simp))
    have fS := xUp_at u2
    have kp := kp.up u2 (by simp)
    refine x_vret C d_St_addCondition_29 ?_
    refine ⟨rfl, _, by rw [fS, nI_1], fcd, lt_s (fun i hi => ?_) ?_, kp⟩
    · obtain ⟨a, h1, h2⟩ := pC i hi
      exact ⟨a, by rw [nI_clamp (by omega), va_up_ne _ _ (by omega)]; exact h1, by rw [va_up_ne _ _ (by omega)]; exact h2.keep (kp.ops hno)⟩
    · exact ⟨q, by rw [nI_clamp (by omega)]; exact va_up_self _ _ _, by rw [va_up_self]; exact pq0.keep (kp.ops hno)⟩
set_option maxRecDepth 20000 in
set_option maxHeartbeats 1000000 in
theorem m_St_init {V : xV} {h : xH} {S : Nat} (fS : h S = some (.inr (4, [.int 0, .int 0, .int 0, .int 0, .int 0, .int 0, .null, .int 0, .null, .int 0, .null]))) : xM V y_St_init b_St_init 1 none 1 [.ref S] h 3 26 (fun v h' => v = none ∧ ∃ nb pk cd, h' S = some (oSt 0 (-1) (-1) (-1) 0 0 nb 0 pk 0 cd) ∧ h' nb = some (xI V 6 (fun _ => 0)) ∧ h' pk = some (xR V 2 12 (fun _ => none)) ∧ h' cd = some (xR V 3 8 (fun _ => none)) ∧ h nb = none ∧ h pk = none ∧ h cd = none ∧ xKeep [S] h h') := by
  refine xM_of true (by decide) (fun _ => rfl) (Nat.le_of_ble_eq_true rfl) (fun K C => ?_)
  show K 3 26 h 0 [(0, .ref S)] []
  have kp : xKeep [S] h h := xKeep.rf
  refine x_aload_n C d_St_init_0 rfl rfl ?_
  refine x_objInit C ⟨l_St_3, oi_i, oi_c⟩ (by decide) (Nat.le_of_ble_eq_true rfl) d_St_init_1 ?_
  refine x_aload_n C d_St_init_4 rfl rfl ?_
  refine x_iconst (v := -1) C d_St_init_5 (by decide) ?_
  refine x_put (fs' := [_, _, _, _, _, _, _, _, _, _, _]) C k_St f_St_9 d_St_init_6 fS (by rfl) (by rfl) (by rfl) (Nat.le_of_ble_eq_true rfl) (by rfl) (fun h1 u1 => ?_)
  have fS := xUp_at u1
  have kp := kp.up u1 (by simp)
  refine x_aload_n C d_St_init_9 rfl rfl ?_
  refine x_iconst (v := -1) C d_St_init_10 (by decide) ?_
  refine x_put (fs' := [_, _, _, _, _, _, _, _, _, _, _]) C k_St f_St_15 d_St_init_11 fS (by rfl) (by rfl) (by rfl) (Nat.le_of_ble_eq_true rfl) (by rfl) (fun h2 u2 => ?_)
  have fS := xUp_at u2
  have kp := kp.up u2 (by simp)
  refine x_aload_n C d_St_init_14 rfl rfl ?_
  refine x_iconst (v := -1) C d_St_init_15 (by decide) ?_
  refine x_put (fs' := [_, _, _, _, _, _, _, _, _, _, _]) C k_St f_St_18 d_St_init_16 fS (by rfl) (by rfl) (by rfl) (Nat.le_of_ble_eq_true rfl) (by rfl) (fun h3 u3 => ?_)
  have fS := xUp_at u3
  have kp := kp.up u3 (by simp)
  refine x_aload_n C d_St_init_19 rfl rfl ?_
  refine x_bipush (v := 6) C d_St_init_20 (by decide) ?_
  refine x_newI (N := 6) C ac_int d_St_init_22 (by decide) (by decide) (by decide) (fun nb h4 n4 u4 => ?_)
  have x4_S := x_nn fS n4
  have fS := xUp_new u4 n4 fS
  have z_nb := kp.isn n4 (by simp only [List.mem_cons, List.not_mem_nil, or_false, not_or]; exact Ne.symm x4_S)
  have kp := kp.upN u4 z_nb
  have f_nb := xUp_at u4
  refine x_putF (fs' := [_, _, _, _, _, _, _, _, _, _, _]) C k_St g_St_21 d_St_init_24 fS (by rfl) (by rfl) (by rfl) (Nat.le_of_ble_eq_true rfl) (by rfl) (fun h5 u5 => ?_)
  have f_nb := xUp_ne u5 f_nb (by first | assumption | exact Ne.symm (by assumption) | exact x_ne f_nb fS (by simp))
  have fS := xUp_at u5
  have kp := kp.up u5 (by simp)
  refine x_aload_n C d_St_init_27 rfl rfl ?_
  refine x_bipush (v := 12) C d_St_init_28 (by decide) ?_
  refine x_newR (t := 2) (N := 12) C rfl (by first | exact Or.inl rfl | exact Or.inr rfl) c_St_25 d_St_init_30 (by decide) (by decide) (by decide) (fun pk h6 n6 u6 => ?_)
  have x6_S := x_nn fS n6
  have x6_nb := x_nn f_nb n6
  have fS := xUp_new u6 n6 fS
  have f_nb := xUp_new u6 n6 f_nb
  have z_pk := kp.isn n6 (by simp only [List.mem_cons, List.not_mem_nil, or_false, not_or]; exact Ne.symm x6_S)
  have kp := kp.upN u6 z_pk
  have f_pk := xUp_at u6
  refine x_putF (fs' := [_, _, _, _, _, _, _, _, _, _, _]) C k_St g_St_27 d_St_init_33 fS (by rfl) (by rfl) (by rfl) (Nat.le_of_ble_eq_true rfl) (by rfl) (fun h7 u7 => ?_)
  have f_nb := xUp_ne u7 f_nb (by first | assumption | exact Ne.symm (by assumption) | exact x_ne f_nb fS (by simp))
  have f_pk := xUp_ne u7 f_pk (by first | assumption | exact Ne.symm (by assumption) | exact x_ne f_pk fS (by simp))
  have fS := xUp_at u7
  have kp := kp.up u7 (by simp)
  refine x_aload_n C d_St_init_36 rfl rfl ?_
  refine x_bipush (v := 8) C d_St_init_37 (by decide) ?_
  refine x_newR (t := 3) (N := 8) C rfl (by first | exact Or.inl rfl | exact Or.inr rfl) c_St_31 d_St_init_39 (by decide) (by decide) (by decide) (fun cd h8 n8 u8 => ?_)
  have x8_S := x_nn fS n8
  have x8_nb := x_nn f_nb n8
  have x8_pk := x_nn f_pk n8
  have fS := xUp_new u8 n8 fS
  have f_nb := xUp_new u8 n8 f_nb
  have f_pk := xUp_new u8 n8 f_pk
  have z_cd := kp.isn n8 (by simp only [List.mem_cons, List.not_mem_nil, or_false, not_or]; exact Ne.symm x8_S)
  have kp := kp.upN u8 z_cd
  have f_cd := xUp_at u8
  refine x_putF (fs' := [_, _, _, _, _, _, _, _, _, _, _]) C k_St g_St_33 d_St_init_42 fS (by rfl) (by rfl) (by rfl) (Nat.le_of_ble_eq_true rfl) (by rfl) (fun h9 u9 => ?_)
  have f_nb := xUp_ne u9 f_nb (by first | assumption | exact Ne.symm (by assumption) | exact x_ne f_nb fS (by simp))
  have f_pk := xUp_ne u9 f_pk (by first | assumption | exact Ne.symm (by assumption) | exact x_ne f_pk fS (by simp))
  have f_cd := xUp_ne u9 f_cd (by first | assumption | exact Ne.symm (by assumption) | exact x_ne f_cd fS (by simp))
  have fS := xUp_at u9
  have kp := kp.up u9 (by simp)
  refine x_vret C d_St_init_45 ?_
  exact ⟨rfl, nb, pk, cd, fS, f_nb, f_pk, f_cd, z_nb, z_pk, z_cd, kp⟩
set_option maxRecDepth 20000 in
set_option maxHeartbeats 1000000 in
theorem m_St_holds {V : xV} {h : xH} {S nb pk cd np kc : Nat} {vb ls fi se fa nc : Int32} (fS : h S = some (oSt vb ls fi se fa nc nb (nI np) pk (nI kc) cd)) {po co : Nat → Option Nat} {pick : Nat → Int32} {cf : Nat → tCd} (fpk : h pk = some (xR V 2 12 po)) (fcd : h cd = some (xR V 3 8 co)) (hnp : np ≤ 12) (hkc : kc ≤ 8) (pO : pOps h po np pick) (pC : pCds h co kc cf) {r : Nat} {f : Nat → Int32} (fr : h r = some (xI V 16 f)) (hin : ∀ j, j < kc → cdIn (cf j)) : xM V y_St_holds b_St_holds 3 (some .boolean) 2 [.ref S, .ref r] h 0 0 (fun v h' => h' = h ∧ v = some (.int (bI (cdsVal kc cf f)))) := by
  refine xM_of false (by decide) (fun h => nomatch h) (Nat.le_of_ble_eq_true rfl) (fun K C => ?_)
  show K 0 0 h 0 [(0, .ref S), (1, .ref r)] []
  have loop : ∀ m : Nat, ∀ j : Nat, kc - j < m → j ≤ kc → (∀ i, i < j → cdVal (cf i) f = true) → K 0 0 h 2 [(2, .int (nI j)), (0, .ref S), (1, .ref r)] [] := by
    intro m
    induction m with
    | zero => intro j hm hj hk; omega
    | succ m ih =>
      intro j hm hj hk
      refine x_iload_n C d_St_holds_2 rfl rfl ?_
      refine x_aload_n C d_St_holds_3 rfl rfl ?_
      refine x_get C k_St f_St_46 d_St_holds_4 fS (by rfl) ?_
      refine x_icmp_ge (tgt := 31) C d_St_holds_7 rfl (fun q7 => ?_) (fun q7 => ?_)
      · skip
        have hj2 := nge_of q7 (by omega)
        refine x_iconst (v := 1) C d_St_holds_31 (by decide) ?_
        refine x_zret C d_St_holds_32 (by rfl) ?_
        refine ⟨rfl, ?_⟩
        rw [show cdsVal kc cf f = true from decide_eq_true (fun i hi => hk i (by omega))]
        rfl
      · skip
        have hj2 := nlt_of q7 (by omega) (by omega)
        obtain ⟨q, hq, a, b, fq, fa', fb'⟩ := pC j hj2
        refine x_aload_n C d_St_holds_10 rfl rfl ?_
        refine x_get C k_St f_St_33 d_St_holds_11 fS (by rfl) ?_
        refine x_iload_n C d_St_holds_14 rfl rfl ?_
        refine x_aald (t := 3) C rfl d_St_holds_15 fcd (vp_in_nI (by omega) (by decide)) ?_
        rw [nI_clamp (by omega), hq]
        refine x_aload_n C d_St_holds_16 rfl rfl ?_
        refine x_callV C l_St_84 v_Cn_holds d_St_holds_17 (m_Cn_holds fq fa' fb' fr (hin j hj2).1 (hin j hj2).2) fq rfl (by rfl) (by rfl) (by decide) (by decide) (Nat.le_of_ble_eq_true rfl) ?_
        rintro v h' ⟨rfl, rfl⟩
        refine x_if_ne (tgt := 25) C d_St_holds_20 rfl (fun q20 => ?_) (fun q20 => ?_)
        · skip
          replace q20 := bI_t q20
          refine x_iinc (v := nI (j + 1)) (k0 := 0) (lv' := [(2, _), (0, _), (1, _)]) C d_St_holds_25 (by rfl) (nI_1 j) (by decide) (by rfl) ?_
          refine x_goto (tgt := 2) C d_St_holds_28 rfl ?_
          exact ih (j + 1) (by omega) (by omega) (lt_s hk q20)
        · skip
          replace q20 := bI_f q20
          refine x_iconst (v := 0) C d_St_holds_23 (by decide) ?_
          refine x_zret C d_St_holds_24 (by rfl) ?_
          exact ⟨rfl, by rw [show cdsVal kc cf f = false from all_no hj2 q20]; rfl⟩
  refine x_iconst (v := 0) C d_St_holds_0 (by decide) ?_
  refine x_istore_n (lv' := [(2, _), (0, _), (1, _)]) C d_St_holds_1 rfl (by decide) (by rfl) ?_
  exact loop (kc + 1) 0 (by omega) (by omega) lt_0
set_option maxRecDepth 20000 in
set_option maxHeartbeats 1000000 in
theorem m_St_columnsAreThere {V : xV} {h : xH} {S nb pk cd np kc : Nat} {vb ls fi se fa nc : Int32} (fS : h S = some (oSt vb ls fi se fa nc nb (nI np) pk (nI kc) cd)) {po co : Nat → Option Nat} {pick : Nat → Int32} {cf : Nat → tCd} (fpk : h pk = some (xR V 2 12 po)) (fcd : h cd = some (xR V 3 8 co)) (hnp : np ≤ 12) (hkc : kc ≤ 8) (pO : pOps h po np pick) (pC : pCds h co kc cf) (fc sc : Int32) : xM V y_St_columnsAreThere b_St_columnsAreThere 4 (some .boolean) 2 [.ref S, .int fc, .int sc] h 0 0 (fun v h' => h' = h ∧ v = some (.int (bI (colsOK np pick kc cf fc sc)))) := by
  refine xM_of false (by decide) (fun h => nomatch h) (Nat.le_of_ble_eq_true rfl) (fun K C => ?_)
  show K 0 0 h 0 [(0, .ref S), (1, .int fc), (2, .int sc)] []
  have loop2 : ∀ m : Nat, ∀ j : Nat, kc - j < m → j ≤ kc → decide (∀ i, i < np → opThere 2 (pick i) fc sc = true) = true → (∀ i, i < j → cdThere (cf i) fc sc = true) → K 0 0 h 34 [(3, .int (nI j)), (0, .ref S), (1, .int fc), (2, .int sc)] [] := by
    intro m
    induction m with
    | zero => intro j hm hj hpk hk; omega
    | succ m ih =>
      intro j hm hj hpk hk
      refine x_iload_n C d_St_columnsAreThere_34 rfl rfl ?_
      refine x_aload_n C d_St_columnsAreThere_35 rfl rfl ?_
      refine x_get C k_St f_St_46 d_St_columnsAreThere_36 fS (by rfl) ?_
      refine x_icmp_ge (tgt := 64) C d_St_columnsAreThere_39 rfl (fun q39 => ?_) (fun q39 => ?_)
      · skip
        have hj2 := nge_of q39 (by omega)
        refine x_iconst (v := 1) C d_St_columnsAreThere_64 (by decide) ?_
        refine x_zret C d_St_columnsAreThere_65 (by rfl) ?_
        refine ⟨rfl, ?_⟩
        unfold colsOK
        rw [hpk, decide_eq_true (fun i hi => hk i (by omega))]
        rfl
      · skip
        have hj2 := nlt_of q39 (by omega) (by omega)
        obtain ⟨q, hq, a, b, fq, fa', fb'⟩ := pC j hj2
        refine x_aload_n C d_St_columnsAreThere_42 rfl rfl ?_
        refine x_get C k_St f_St_33 d_St_columnsAreThere_43 fS (by rfl) ?_
        refine x_iload_n C d_St_columnsAreThere_46 rfl rfl ?_
        refine x_aald (t := 3) C rfl d_St_columnsAreThere_47 fcd (vp_in_nI (by omega) (by decide)) ?_
        rw [nI_clamp (by omega), hq]
        refine x_iload_n C d_St_columnsAreThere_48 rfl rfl ?_
        refine x_iload_n C d_St_columnsAreThere_49 rfl rfl ?_
        refine x_callV C l_St_72 v_Cn_isThere d_St_columnsAreThere_50 (m_Cn_isThere fq fa' fb' fc sc) fq rfl (by rfl) (by rfl) (by decide) (by decide) (Nat.le_of_ble_eq_true rfl) ?_
        rintro v h' ⟨rfl, rfl⟩
        refine x_if_ne (tgt := 58) C d_St_columnsAreThere_53 rfl (fun q53 => ?_) (fun q53 => ?_)
        · skip
          replace q53 := bI_t q53
          refine x_iinc (v := nI (j + 1)) (k0 := 0) (lv' := [(3, _), (0, _), (1, _), (2, _)]) C d_St_columnsAreThere_58 (by rfl) (nI_1 j) (by decide) (by rfl) ?_
          refine x_goto (tgt := 34) C d_St_columnsAreThere_61 rfl ?_
          exact ih (j + 1) (by omega) (by omega) hpk (lt_s hk q53)
        · skip
          replace q53 := bI_f q53
          refine x_iconst (v := 0) C d_St_columnsAreThere_56 (by decide) ?_
          refine x_zret C d_St_columnsAreThere_57 (by rfl) ?_
          refine ⟨rfl, ?_⟩
          unfold colsOK
          rw [hpk, all_no (p := fun j => cdThere (cf j) fc sc) hj2 q53]
          rfl
  have loop1 : ∀ m : Nat, ∀ j : Nat, np - j < m → j ≤ np → (∀ i, i < j → opThere 2 (pick i) fc sc = true) → K 0 0 h 2 [(3, .int (nI j)), (0, .ref S), (1, .int fc), (2, .int sc)] [] := by
    intro m
    induction m with
    | zero => intro j hm hj hk; omega
    | succ m ih =>
      intro j hm hj hk
      refine x_iload_n C d_St_columnsAreThere_2 rfl rfl ?_
      refine x_aload_n C d_St_columnsAreThere_3 rfl rfl ?_
      refine x_get C k_St f_St_40 d_St_columnsAreThere_4 fS (by rfl) ?_
      refine x_icmp_ge (tgt := 32) C d_St_columnsAreThere_7 rfl (fun q7 => ?_) (fun q7 => ?_)
      · skip
        have hj2 := nge_of q7 (by omega)
        have hpk : decide (∀ i, i < np → opThere 2 (pick i) fc sc = true) = true := decide_eq_true (fun i hi => hk i (by omega))
        refine x_iconst (v := 0) C d_St_columnsAreThere_32 (by decide) ?_
        refine x_istore_n (lv' := [(3, _), (0, _), (1, _), (2, _)]) C d_St_columnsAreThere_33 rfl (by decide) (by rfl) ?_
        exact loop2 (kc + 1) 0 (by omega) (by omega) hpk lt_0
      · skip
        have hj2 := nlt_of q7 (by omega) (by omega)
        obtain ⟨q, hq, fq⟩ := pO j hj2
        refine x_aload_n C d_St_columnsAreThere_10 rfl rfl ?_
        refine x_get C k_St f_St_27 d_St_columnsAreThere_11 fS (by rfl) ?_
        refine x_iload_n C d_St_columnsAreThere_14 rfl rfl ?_
        refine x_aald (t := 2) C rfl d_St_columnsAreThere_15 fpk (vp_in_nI (by omega) (by decide)) ?_
        rw [nI_clamp (by omega), hq]
        refine x_iload_n C d_St_columnsAreThere_16 rfl rfl ?_
        refine x_iload_n C d_St_columnsAreThere_17 rfl rfl ?_
        refine x_callV C l_St_70 v_Op_isThere d_St_columnsAreThere_18 (m_Op_isThere fq fc sc) fq rfl (by rfl) (by rfl) (by decide) (by decide) (Nat.le_of_ble_eq_true rfl) ?_
        rintro v h' ⟨rfl, rfl⟩
        refine x_if_ne (tgt := 26) C d_St_columnsAreThere_21 rfl (fun q21 => ?_) (fun q21 => ?_)
        · skip
          replace q21 := bI_t q21
          refine x_iinc (v := nI (j + 1)) (k0 := 0) (lv' := [(3, _), (0, _), (1, _), (2, _)]) C d_St_columnsAreThere_26 (by rfl) (nI_1 j) (by decide) (by rfl) ?_
          refine x_goto (tgt := 2) C d_St_columnsAreThere_29 rfl ?_
          exact ih (j + 1) (by omega) (by omega) (lt_s hk q21)
        · skip
          replace q21 := bI_f q21
          refine x_iconst (v := 0) C d_St_columnsAreThere_24 (by decide) ?_
          refine x_zret C d_St_columnsAreThere_25 (by rfl) ?_
          refine ⟨rfl, ?_⟩
          unfold colsOK
          rw [all_no (p := fun i => opThere 2 (pick i) fc sc) hj2 q21]
          rfl
  refine x_iconst (v := 0) C d_St_columnsAreThere_0 (by decide) ?_
  refine x_istore_n (lv' := [(3, _), (0, _), (1, _), (2, _)]) C d_St_columnsAreThere_1 rfl (by decide) (by rfl) ?_
  exact loop1 (np + 1) 0 (by omega) (by omega) lt_0
set_option maxRecDepth 20000 in
set_option maxHeartbeats 1000000 in
theorem m_St_faultOfCreate {V : xV} {h : xH} {S nb pk cd : Nat} {vb ls fi se fa nc np kc : Int32} (fS : h S = some (oSt vb ls fi se fa nc nb np pk kc cd)) {g : Nat → Int32} (fnb : h nb = some (xI V 6 g)) {B ce co' sr : Nat} {f c s : Nat → Int32} (pT : pTa V h B ce co' sr f c s) : xM V y_St_faultOfCreate b_St_faultOfCreate 2 (some .int) 2 [.ref S, .ref B] h 0 0 (fun v h' => h' = h ∧ v = some (.int (faultC fi (g 0) c))) := by
  refine xM_of false (by decide) (fun h => nomatch h) (Nat.le_of_ble_eq_true rfl) (fun K C => ?_)
  show K 0 0 h 0 [(0, .ref S), (1, .ref B)] []
  have pT0 := pT
  obtain ⟨fB, -, -, -⟩ := pT
  refine x_aload_n C d_St_faultOfCreate_0 rfl rfl ?_
  refine x_aload_n C d_St_faultOfCreate_1 rfl rfl ?_
  refine x_get C k_St f_St_15 d_St_faultOfCreate_2 fS (by rfl) ?_
  refine x_callV C l_St_56 v_Ta_isThere d_St_faultOfCreate_5 (m_Ta_isThere pT0 fi) fB rfl (by rfl) (by rfl) (by decide) (by decide) (Nat.le_of_ble_eq_true rfl) ?_
  rintro v h' ⟨rfl, rfl⟩
  refine x_if_eq (tgt := 14) C d_St_faultOfCreate_8 rfl (fun q8 => ?_) (fun q8 => ?_)
  · skip
    replace q8 := bI_f q8
    have hc : colOf c fi ≤ 0 := by simpa using q8
    refine x_aload_n C d_St_faultOfCreate_14 rfl rfl ?_
    refine x_get C k_St f_St_21 d_St_faultOfCreate_15 fS (by rfl) ?_
    refine x_iconst (v := 0) C d_St_faultOfCreate_18 (by decide) ?_
    refine x_iald C d_St_faultOfCreate_19 fnb (vp_in_nI (n := 0) (by decide) (by decide)) ?_
    refine x_iconst (v := 1) C d_St_faultOfCreate_20 (by decide) ?_
    refine x_icmp_lt (tgt := 39) C d_St_faultOfCreate_21 rfl (fun q21 => ?_) (fun q21 => ?_)
    · skip
      refine x_bipush (v := -5) C d_St_faultOfCreate_39 (by decide) ?_
      refine x_iret C d_St_faultOfCreate_41 ?_
      refine ⟨rfl, ?_⟩
      unfold faultC
      rw [if_neg (fun z => z hc)]
      rw [sb_cl0] at q21
      first | (rw [if_pos q21]; done) | (rw [sb_cl0] at q32; rw [if_neg q21]; first | (rw [if_pos q32]; done) | (rw [if_neg q32]; done))
    · skip
      refine x_aload_n C d_St_faultOfCreate_24 rfl rfl ?_
      refine x_get C k_St f_St_21 d_St_faultOfCreate_25 fS (by rfl) ?_
      refine x_iconst (v := 0) C d_St_faultOfCreate_28 (by decide) ?_
      refine x_iald C d_St_faultOfCreate_29 fnb (vp_in_nI (n := 0) (by decide) (by decide)) ?_
      refine x_bipush (v := 6) C d_St_faultOfCreate_30 (by decide) ?_
      refine x_icmp_gt (tgt := 39) C d_St_faultOfCreate_32 rfl (fun q32 => ?_) (fun q32 => ?_)
      · skip
        refine x_bipush (v := -5) C d_St_faultOfCreate_39 (by decide) ?_
        refine x_iret C d_St_faultOfCreate_41 ?_
        refine ⟨rfl, ?_⟩
        unfold faultC
        rw [if_neg (fun z => z hc)]
        rw [sb_cl0] at q21
        first | (rw [if_pos q21]; done) | (rw [sb_cl0] at q32; rw [if_neg q21]; first | (rw [if_pos q32]; done) | (rw [if_neg q32]; done))
      · skip
        refine x_iconst (v := 0) C d_St_faultOfCreate_35 (by decide) ?_
        refine x_goto (tgt := 41) C d_St_faultOfCreate_36 rfl ?_
        refine x_iret C d_St_faultOfCreate_41 ?_
        refine ⟨rfl, ?_⟩
        unfold faultC
        rw [if_neg (fun z => z hc)]
        rw [sb_cl0] at q21
        first | (rw [if_pos q21]; done) | (rw [sb_cl0] at q32; rw [if_neg q21]; first | (rw [if_pos q32]; done) | (rw [if_neg q32]; done))
  · skip
    replace q8 := bI_t q8
    have hc : ¬ colOf c fi ≤ 0 := by simpa using q8
    refine x_bipush (v := -4) C d_St_faultOfCreate_11 (by decide) ?_
    refine x_iret C d_St_faultOfCreate_13 ?_
    exact ⟨rfl, by unfold faultC; rw [if_pos hc]⟩
set_option maxRecDepth 20000 in
set_option maxHeartbeats 1000000 in
theorem m_St_fault {V : xV} {h : xH} {S nb pk cd np kc : Nat} {vb ls fi se fa nc : Int32} (fS : h S = some (oSt vb ls fi se fa nc nb (nI np) pk (nI kc) cd)) {po co : Nat → Option Nat} {pick : Nat → Int32} {cf : Nat → tCd} (fpk : h pk = some (xR V 2 12 po)) (fcd : h cd = some (xR V 3 8 co)) (hnp : np ≤ 12) (hkc : kc ≤ 8) (pO : pOps h po np pick) (pC : pCds h co kc cf) {g : Nat → Int32} (fnb : h nb = some (xI V 6 g)) {B ce co' sr : Nat} {f c s : Nat → Int32} (pT : pTa V h B ce co' sr f c s) : xM V y_St_fault b_St_fault 2 (some .int) 3 [.ref S, .ref B] h 0 0 (fun v h' => h' = h ∧ v = some (.int (faultS vb fi se nc (g 0) c (colsOK np pick kc cf (colOf c fi) (colOf c se))))) := by
  refine xM_of false (by decide) (fun h => nomatch h) (Nat.le_of_ble_eq_true rfl) (fun K C => ?_)
  show K 0 0 h 0 [(0, .ref S), (1, .ref B)] []
  have pT0 := pT
  obtain ⟨fB, -, -, -⟩ := pT
  refine x_aload_n C d_St_fault_0 rfl rfl ?_
  refine x_get C k_St f_St_49 d_St_fault_1 fS (by rfl) ?_
  refine x_if_ne (tgt := 13) C d_St_fault_4 rfl (fun q4 => ?_) (fun q4 => ?_)
  · skip
    refine x_aload_n C d_St_fault_13 rfl rfl ?_
    refine x_aload_n C d_St_fault_14 rfl rfl ?_
    refine x_get C k_St f_St_15 d_St_fault_15 fS (by rfl) ?_
    refine x_callV C l_St_56 v_Ta_isThere d_St_fault_18 (m_Ta_isThere pT0 fi) fB rfl (by rfl) (by rfl) (by decide) (by decide) (Nat.le_of_ble_eq_true rfl) ?_
    rintro v h' ⟨rfl, rfl⟩
    refine x_if_eq (tgt := 43) C d_St_fault_21 rfl (fun q21 => ?_) (fun q21 => ?_)
    · skip
      replace q21 := bI_f q21
      have hc : colOf c fi ≤ 0 := by simpa using q21
      refine x_bipush (v := -2) C d_St_fault_43 (by decide) ?_
      refine x_iret C d_St_fault_45 ?_
      refine ⟨rfl, ?_⟩
      unfold faultS
      rw [if_neg q4]
      first | (rw [if_pos hc]; done) | (rw [if_neg hc, if_pos hs]; done)
    · skip
      replace q21 := bI_t q21
      have hc : ¬ colOf c fi ≤ 0 := by simpa using q21
      refine x_aload_n C d_St_fault_24 rfl rfl ?_
      refine x_get C k_St f_St_18 d_St_fault_25 fS (by rfl) ?_
      refine x_iconst (v := -1) C d_St_fault_28 (by decide) ?_
      refine x_icmp_eq (tgt := 46) C d_St_fault_29 rfl (fun q29 => ?_) (fun q29 => ?_)
      · skip
        have hs : ¬ (¬ se = -1 ∧ colOf c se ≤ 0) := fun z => z.1 q29
        refine x_aload_n C d_St_fault_46 rfl rfl ?_
        refine x_aload_n C d_St_fault_47 rfl rfl ?_
        refine x_aload_n C d_St_fault_48 rfl rfl ?_
        refine x_get C k_St f_St_15 d_St_fault_49 fS (by rfl) ?_
        refine x_callV C l_St_62 v_Ta_columnsOf d_St_fault_52 (m_Ta_columnsOf pT0 fi) fB rfl (by rfl) (by rfl) (by decide) (by decide) (Nat.le_of_ble_eq_true rfl) ?_
        rintro v h' ⟨rfl, rfl⟩
        refine x_aload_n C d_St_fault_55 rfl rfl ?_
        refine x_aload_n C d_St_fault_56 rfl rfl ?_
        refine x_get C k_St f_St_18 d_St_fault_57 fS (by rfl) ?_
        refine x_callV C l_St_62 v_Ta_columnsOf d_St_fault_60 (m_Ta_columnsOf pT0 se) fB rfl (by rfl) (by rfl) (by decide) (by decide) (Nat.le_of_ble_eq_true rfl) ?_
        rintro v h' ⟨rfl, rfl⟩
        refine x_callV C l_St_66 v_St_columnsAreThere d_St_fault_63 (m_St_columnsAreThere fS fpk fcd hnp hkc pO pC _ _) fS rfl (by rfl) (by rfl) (by decide) (by decide) (Nat.le_of_ble_eq_true rfl) ?_
        rintro v h' ⟨rfl, rfl⟩
        refine x_if_ne (tgt := 72) C d_St_fault_66 rfl (fun q66 => ?_) (fun q66 => ?_)
        · skip
          replace q66 := bI_t q66
          refine x_aload_n C d_St_fault_72 rfl rfl ?_
          refine x_get C k_St f_St_49 d_St_fault_73 fS (by rfl) ?_
          refine x_iconst (v := 1) C d_St_fault_76 (by decide) ?_
          refine x_icmp_ne (tgt := 98) C d_St_fault_77 rfl (fun q77 => ?_) (fun q77 => ?_)
          · skip
            have hv : ¬ (vb = 1 ∧ ¬ nc = colOf c fi) := fun z => q77 z.1
            refine x_iconst (v := 0) C d_St_fault_98 (by decide) ?_
            refine x_iret C d_St_fault_99 ?_
            refine ⟨rfl, ?_⟩
            unfold faultS
            rw [if_neg q4, if_neg hc, if_neg hs, if_neg (by rw [q66]; decide), if_neg hv]
          · skip
            refine x_aload_n C d_St_fault_80 rfl rfl ?_
            refine x_get C k_St f_St_37 d_St_fault_81 fS (by rfl) ?_
            refine x_aload_n C d_St_fault_84 rfl rfl ?_
            refine x_aload_n C d_St_fault_85 rfl rfl ?_
            refine x_get C k_St f_St_15 d_St_fault_86 fS (by rfl) ?_
            refine x_callV C l_St_62 v_Ta_columnsOf d_St_fault_89 (m_Ta_columnsOf pT0 fi) fB rfl (by rfl) (by rfl) (by decide) (by decide) (Nat.le_of_ble_eq_true rfl) ?_
            rintro v h' ⟨rfl, rfl⟩
            refine x_icmp_eq (tgt := 98) C d_St_fault_92 rfl (fun q92 => ?_) (fun q92 => ?_)
            · skip
              have hv : ¬ (vb = 1 ∧ ¬ nc = colOf c fi) := fun z => z.2 q92
              refine x_iconst (v := 0) C d_St_fault_98 (by decide) ?_
              refine x_iret C d_St_fault_99 ?_
              refine ⟨rfl, ?_⟩
              unfold faultS
              rw [if_neg q4, if_neg hc, if_neg hs, if_neg (by rw [q66]; decide), if_neg hv]
            · skip
              have hv : vb = 1 ∧ ¬ nc = colOf c fi := ⟨q77, q92⟩
              refine x_bipush (v := -5) C d_St_fault_95 (by decide) ?_
              refine x_iret C d_St_fault_97 ?_
              refine ⟨rfl, ?_⟩
              unfold faultS
              rw [if_neg q4, if_neg hc, if_neg hs, if_neg (by rw [q66]; decide), if_pos hv]
        · skip
          replace q66 := bI_f q66
          refine x_bipush (v := -3) C d_St_fault_69 (by decide) ?_
          refine x_iret C d_St_fault_71 ?_
          refine ⟨rfl, ?_⟩
          unfold faultS
          rw [if_neg q4, if_neg hc, if_neg hs, if_pos q66]
      · skip
        refine x_aload_n C d_St_fault_32 rfl rfl ?_
        refine x_aload_n C d_St_fault_33 rfl rfl ?_
        refine x_get C k_St f_St_18 d_St_fault_34 fS (by rfl) ?_
        refine x_callV C l_St_56 v_Ta_isThere d_St_fault_37 (m_Ta_isThere pT0 se) fB rfl (by rfl) (by rfl) (by decide) (by decide) (Nat.le_of_ble_eq_true rfl) ?_
        rintro v h' ⟨rfl, rfl⟩
        refine x_if_ne (tgt := 46) C d_St_fault_40 rfl (fun q40 => ?_) (fun q40 => ?_)
        · skip
          replace q40 := bI_t q40
          have hs : ¬ (¬ se = -1 ∧ colOf c se ≤ 0) := fun z => by simp [z.2] at q40
          refine x_aload_n C d_St_fault_46 rfl rfl ?_
          refine x_aload_n C d_St_fault_47 rfl rfl ?_
          refine x_aload_n C d_St_fault_48 rfl rfl ?_
          refine x_get C k_St f_St_15 d_St_fault_49 fS (by rfl) ?_
          refine x_callV C l_St_62 v_Ta_columnsOf d_St_fault_52 (m_Ta_columnsOf pT0 fi) fB rfl (by rfl) (by rfl) (by decide) (by decide) (Nat.le_of_ble_eq_true rfl) ?_
          rintro v h' ⟨rfl, rfl⟩
          refine x_aload_n C d_St_fault_55 rfl rfl ?_
          refine x_aload_n C d_St_fault_56 rfl rfl ?_
          refine x_get C k_St f_St_18 d_St_fault_57 fS (by rfl) ?_
          refine x_callV C l_St_62 v_Ta_columnsOf d_St_fault_60 (m_Ta_columnsOf pT0 se) fB rfl (by rfl) (by rfl) (by decide) (by decide) (Nat.le_of_ble_eq_true rfl) ?_
          rintro v h' ⟨rfl, rfl⟩
          refine x_callV C l_St_66 v_St_columnsAreThere d_St_fault_63 (m_St_columnsAreThere fS fpk fcd hnp hkc pO pC _ _) fS rfl (by rfl) (by rfl) (by decide) (by decide) (Nat.le_of_ble_eq_true rfl) ?_
          rintro v h' ⟨rfl, rfl⟩
          refine x_if_ne (tgt := 72) C d_St_fault_66 rfl (fun q66 => ?_) (fun q66 => ?_)
          · skip
            replace q66 := bI_t q66
            refine x_aload_n C d_St_fault_72 rfl rfl ?_
            refine x_get C k_St f_St_49 d_St_fault_73 fS (by rfl) ?_
            refine x_iconst (v := 1) C d_St_fault_76 (by decide) ?_
            refine x_icmp_ne (tgt := 98) C d_St_fault_77 rfl (fun q77 => ?_) (fun q77 => ?_)
            · skip
              have hv : ¬ (vb = 1 ∧ ¬ nc = colOf c fi) := fun z => q77 z.1
              refine x_iconst (v := 0) C d_St_fault_98 (by decide) ?_
              refine x_iret C d_St_fault_99 ?_
              refine ⟨rfl, ?_⟩
              unfold faultS
              rw [if_neg q4, if_neg hc, if_neg hs, if_neg (by rw [q66]; decide), if_neg hv]
            · skip
              refine x_aload_n C d_St_fault_80 rfl rfl ?_
              refine x_get C k_St f_St_37 d_St_fault_81 fS (by rfl) ?_
              refine x_aload_n C d_St_fault_84 rfl rfl ?_
              refine x_aload_n C d_St_fault_85 rfl rfl ?_
              refine x_get C k_St f_St_15 d_St_fault_86 fS (by rfl) ?_
              refine x_callV C l_St_62 v_Ta_columnsOf d_St_fault_89 (m_Ta_columnsOf pT0 fi) fB rfl (by rfl) (by rfl) (by decide) (by decide) (Nat.le_of_ble_eq_true rfl) ?_
              rintro v h' ⟨rfl, rfl⟩
              refine x_icmp_eq (tgt := 98) C d_St_fault_92 rfl (fun q92 => ?_) (fun q92 => ?_)
              · skip
                have hv : ¬ (vb = 1 ∧ ¬ nc = colOf c fi) := fun z => z.2 q92
                refine x_iconst (v := 0) C d_St_fault_98 (by decide) ?_
                refine x_iret C d_St_fault_99 ?_
                refine ⟨rfl, ?_⟩
                unfold faultS
                rw [if_neg q4, if_neg hc, if_neg hs, if_neg (by rw [q66]; decide), if_neg hv]
              · skip
                have hv : vb = 1 ∧ ¬ nc = colOf c fi := ⟨q77, q92⟩
                refine x_bipush (v := -5) C d_St_fault_95 (by decide) ?_
                refine x_iret C d_St_fault_97 ?_
                refine ⟨rfl, ?_⟩
                unfold faultS
                rw [if_neg q4, if_neg hc, if_neg hs, if_neg (by rw [q66]; decide), if_pos hv]
          · skip
            replace q66 := bI_f q66
            refine x_bipush (v := -3) C d_St_fault_69 (by decide) ?_
            refine x_iret C d_St_fault_71 ?_
            refine ⟨rfl, ?_⟩
            unfold faultS
            rw [if_neg q4, if_neg hc, if_neg hs, if_pos q66]
        · skip
          replace q40 := bI_f q40
          have hs : ¬ se = -1 ∧ colOf c se ≤ 0 := ⟨q29, by simpa using q40⟩
          refine x_bipush (v := -2) C d_St_fault_43 (by decide) ?_
          refine x_iret C d_St_fault_45 ?_
          refine ⟨rfl, ?_⟩
          unfold faultS
          rw [if_neg q4]
          first | (rw [if_pos hc]; done) | (rw [if_neg hc, if_pos hs]; done)
  · skip
    refine x_aload_n C d_St_fault_7 rfl rfl ?_
    refine x_aload_n C d_St_fault_8 rfl rfl ?_
    refine x_callV C l_St_52 v_St_faultOfCreate d_St_fault_9 (m_St_faultOfCreate fS fnb pT0) fS rfl (by rfl) (by rfl) (by decide) (by decide) (Nat.le_of_ble_eq_true rfl) ?_
    rintro v h' ⟨rfl, rfl⟩
    refine x_iret C d_St_fault_12 ?_
    exact ⟨rfl, by unfold faultS; rw [if_pos q4]⟩
set_option maxRecDepth 20000 in
set_option maxHeartbeats 1000000 in
theorem m_St_addPicks {V : xV} {h : xH} {S nb pk cd np n : Nat} {vb ls fi se fa nc kc : Int32} (fS : h S = some (oSt vb ls fi se fa nc nb (nI np) pk kc cd)) {po : Nat → Option Nat} {pick : Nat → Int32} (fpk : h pk = some (xR V 2 12 po)) (hn : n ≤ 6) (hnp : np + n ≤ 12) (pO : pOps h po np pick) (lo : Int32) : xM V y_St_addPicks b_St_addPicks 4 none 3 [.ref S, .int lo, .int (nI n)] h 6 12 (fun v h' => v = none ∧ ∃ po' pick', h' S = some (oSt vb ls fi se fa nc nb (nI (np + n)) pk kc cd) ∧ h' pk = some (xR V 2 12 po') ∧ pOps h' po' (np + n) pick' ∧ (∀ i, i < np → pick' i = pick i) ∧ (∀ i, i < n → pick' (np + i) = lo + nI i) ∧ xKeep [S, pk] h h') := by
  refine xM_of false (by decide) (fun h => nomatch h) (Nat.le_of_ble_eq_true rfl) (fun K C => ?_)
  show K 6 12 h 0 [(0, .ref S), (1, .int lo), (2, .int (nI n))] []
  have kp : xKeep [S, pk] h h := xKeep.rf
  have loop : ∀ m : Nat, ∀ (j : Nat) (h1 : xH) (po1 : Nat → Option Nat) (pick1 : Nat → Int32), n - j < m → j ≤ n → h1 S = some (oSt vb ls fi se fa nc nb (nI (np + j)) pk kc cd) → h1 pk = some (xR V 2 12 po1) → pOps h1 po1 (np + j) pick1 → (∀ i, i < np → pick1 i = pick i) → (∀ i, i < j → pick1 (np + i) = lo + nI i) → xKeep [S, pk] h h1 → K (6 - j) (12 - 2 * j) h1 2 [(3, .int (nI j)), (0, .ref S), (1, .int lo), (2, .int (nI n))] [] := by
    intro m
    induction m with
    | zero => intro j h1 po1 pick1 hm hj fS fpk pO1 hp1 hp2 kp; omega
    | succ m ih =>
      intro j h1 po1 pick1 hm hj fS fpk pO1 hp1 hp2 kp
      refine x_iload_n C d_St_addPicks_2 rfl rfl ?_
      refine x_iload_n C d_St_addPicks_3 rfl rfl ?_
      refine x_icmp_ge (tgt := 20) C d_St_addPicks_4 rfl (fun q4 => ?_) (fun q4 => ?_)
      · skip
        have hj2 := nge_of q4 (by omega)
        refine x_vret C d_St_addPicks_20 ?_
        have hjn : j = n := by omega
        subst hjn
        exact ⟨rfl, po1, pick1, fS, fpk, pO1, hp1, hp2, kp⟩
      · skip
        have hj2 := nlt_of q4 (by omega) (by omega)
        refine x_mono (mc := 6 - (j + 1) + 1) (ms := 12 - 2 * (j + 1) + 2) C (by omega) (by omega) ?_
        refine x_aload_n C d_St_addPicks_7 rfl rfl ?_
        refine x_iload_n C d_St_addPicks_8 rfl rfl ?_
        refine x_iload_n C d_St_addPicks_9 rfl rfl ?_
        refine x_iadd C d_St_addPicks_10 ?_
        refine x_callV C l_St_76 v_St_addPick d_St_addPicks_11 (m_St_addPick fS fpk (by omega) pO1 (lo + nI j)) fS rfl (by rfl) (by rfl) (by decide) (by decide) (Nat.le_of_ble_eq_true rfl) ?_
        rintro v1 h1 ⟨rfl, po2, fS', fpk', pO2, kp1⟩
        have kp := kp.call kp1 (kc_c (Or.inl (by simp)) (kc_c (Or.inl (by simp)) kc_n))
        have fS := fS'
        have fpk := fpk'
        refine x_iinc (v := nI (j + 1)) (k0 := 0) (lv' := [(3, _), (0, _), (1, _), (2, _)]) C d_St_addPicks_14 (by rfl) (nI_1 j) (by decide) (by rfl) ?_
        refine x_goto (tgt := 2) C d_St_addPicks_17 rfl ?_
        exact ih (j + 1) _ po2 (upd pick1 (np + j) (lo + nI j)) (by omega) (by omega) fS fpk pO2 (fun i hi => by rw [pk_un (by omega)]; exact hp1 i hi) (lt_s (fun i hi => by rw [pk_un (by omega)]; exact hp2 i hi) pk_us) kp
  refine x_iconst (v := 0) C d_St_addPicks_0 (by decide) ?_
  refine x_istore_n (lv' := [(3, _), (0, _), (1, _), (2, _)]) C d_St_addPicks_1 rfl (by decide) (by rfl) ?_
  exact loop (n + 1) 0 h po pick (by omega) (by omega) fS fpk pO (fun _ _ => rfl) lt_0 kp
set_option maxRecDepth 20000 in
set_option maxHeartbeats 1000000 in
theorem m_St_spellOutAll {V : xV} {h : xH} {S nb pk cd np nf ns : Nat} {vb ls fi se fa nc kc : Int32} (fS : h S = some (oSt vb ls fi se fa nc nb (nI np) pk kc cd)) {po : Nat → Option Nat} {pick : Nat → Int32} (fpk : h pk = some (xR V 2 12 po)) (pO : pOps h po np pick) {B ce co' sr : Nat} {f c s : Nat → Int32} (pT : pTa V h B ce co' sr f c s) (hf : colOf c fi = nI nf) (hs : colOf c se = nI ns) (hf6 : nf ≤ 6) (hs6 : ns ≤ 6) (hz : ls = 4 → np = 0) : xM V y_St_spellOutAll b_St_spellOutAll 2 none 4 [.ref S, .ref B] h 12 24 (fun v h' => v = none ∧ ∃ (np' : Nat) (po' : Nat → Option Nat) (pick' : Nat → Int32), h' S = some (oSt vb ls fi se fa nc nb (nI np') pk kc cd) ∧ h' pk = some (xR V 2 12 po') ∧ pOps h' po' np' pick' ∧ (¬ ls = 4 → np' = np ∧ pick' = pick) ∧ (ls = 4 → np' = nf + ns ∧ (∀ i, i < nf → pick' i = nI i) ∧ ∀ i, i < ns → pick' (nf + i) = 10 + nI i) ∧ xKeep [S, pk] h h') := by
  refine xM_of false (by decide) (fun h => nomatch h) (Nat.le_of_ble_eq_true rfl) (fun K C => ?_)
  show K 12 24 h 0 [(0, .ref S), (1, .ref B)] []
  have kp : xKeep [S, pk] h h := xKeep.rf
  obtain ⟨fB, fce, fco, fsr⟩ := pT
  refine x_aload_n C d_St_spellOutAll_0 rfl rfl ?_
  refine x_get C k_St f_St_9 d_St_spellOutAll_1 fS (by rfl) ?_
  refine x_iconst (v := 4) C d_St_spellOutAll_4 (by decide) ?_
  refine x_icmp_eq (tgt := 9) C d_St_spellOutAll_5 rfl (fun q5 => ?_) (fun q5 => ?_)
  · skip
    have h0 := hz q5
    subst h0
    refine x_aload_n C d_St_spellOutAll_9 rfl rfl ?_
    refine x_iconst (v := 0) C d_St_spellOutAll_10 (by decide) ?_
    refine x_aload_n C d_St_spellOutAll_11 rfl rfl ?_
    refine x_aload_n C d_St_spellOutAll_12 rfl rfl ?_
    refine x_get C k_St f_St_15 d_St_spellOutAll_13 fS (by rfl) ?_
    refine x_callV C l_St_62 v_Ta_columnsOf d_St_spellOutAll_16 (m_Ta_columnsOf ⟨fB, fce, fco, fsr⟩ fi) fB rfl (by rfl) (by rfl) (by decide) (by decide) (Nat.le_of_ble_eq_true rfl) ?_
    rintro v h' ⟨rfl, rfl⟩
    rw [hf]
    refine x_callV C l_St_73 v_St_addPicks d_St_spellOutAll_19 (m_St_addPicks fS fpk hf6 (by omega) pO 0) fS rfl (by rfl) (by rfl) (by decide) (by decide) (Nat.le_of_ble_eq_true rfl) ?_
    rintro v1 h1 ⟨rfl, po1, pick1, fS', fpk', pO1, -, hp1, kp1⟩
    have fB := kp1.get fB (nm_c (by first | assumption | exact Ne.symm (by assumption) | exact x_ne fB fS (by simp)) (nm_c (by first | assumption | exact Ne.symm (by assumption) | exact x_ne fB fpk (by simp)) nm_n))
    have fce := kp1.get fce (nm_c (by first | assumption | exact Ne.symm (by assumption) | exact x_ne fce fS (by simp)) (nm_c (by first | assumption | exact Ne.symm (by assumption) | exact x_ne fce fpk (by simp)) nm_n))
    have fco := kp1.get fco (nm_c (by first | assumption | exact Ne.symm (by assumption) | exact x_ne fco fS (by simp)) (nm_c (by first | assumption | exact Ne.symm (by assumption) | exact x_ne fco fpk (by simp)) nm_n))
    have fsr := kp1.get fsr (nm_c (by first | assumption | exact Ne.symm (by assumption) | exact x_ne fsr fS (by simp)) (nm_c (by first | assumption | exact Ne.symm (by assumption) | exact x_ne fsr fpk (by simp)) nm_n))
    have kp := kp.call kp1 (kc_c (Or.inl (by simp)) (kc_c (Or.inl (by simp)) kc_n))
    have fS := fS'
    have fpk := fpk'
    refine x_aload_n C d_St_spellOutAll_22 rfl rfl ?_
    refine x_bipush (v := 10) C d_St_spellOutAll_23 (by decide) ?_
    refine x_aload_n C d_St_spellOutAll_25 rfl rfl ?_
    refine x_aload_n C d_St_spellOutAll_26 rfl rfl ?_
    refine x_get C k_St f_St_18 d_St_spellOutAll_27 fS (by rfl) ?_
    refine x_callV C l_St_62 v_Ta_columnsOf d_St_spellOutAll_30 (m_Ta_columnsOf ⟨fB, fce, fco, fsr⟩ se) fB rfl (by rfl) (by rfl) (by decide) (by decide) (Nat.le_of_ble_eq_true rfl) ?_
    rintro v h' ⟨rfl, rfl⟩
    rw [hs]
    refine x_callV C l_St_73 v_St_addPicks d_St_spellOutAll_33 (m_St_addPicks fS fpk hs6 (by omega) pO1 10) fS rfl (by rfl) (by rfl) (by decide) (by decide) (Nat.le_of_ble_eq_true rfl) ?_
    rintro v2 h2 ⟨rfl, po2, pick2, fS', fpk', pO2, hp2, hp3, kp2⟩
    have fB := kp2.get fB (nm_c (by first | assumption | exact Ne.symm (by assumption) | exact x_ne fB fS (by simp)) (nm_c (by first | assumption | exact Ne.symm (by assumption) | exact x_ne fB fpk (by simp)) nm_n))
    have fce := kp2.get fce (nm_c (by first | assumption | exact Ne.symm (by assumption) | exact x_ne fce fS (by simp)) (nm_c (by first | assumption | exact Ne.symm (by assumption) | exact x_ne fce fpk (by simp)) nm_n))
    have fco := kp2.get fco (nm_c (by first | assumption | exact Ne.symm (by assumption) | exact x_ne fco fS (by simp)) (nm_c (by first | assumption | exact Ne.symm (by assumption) | exact x_ne fco fpk (by simp)) nm_n))
    have fsr := kp2.get fsr (nm_c (by first | assumption | exact Ne.symm (by assumption) | exact x_ne fsr fS (by simp)) (nm_c (by first | assumption | exact Ne.symm (by assumption) | exact x_ne fsr fpk (by simp)) nm_n))
    have kp := kp.call kp2 (kc_c (Or.inl (by simp)) (kc_c (Or.inl (by simp)) kc_n))
    have fS := fS'
    have fpk := fpk'
    refine x_vret C d_St_spellOutAll_36 ?_
    refine ⟨rfl, _, po2, pick2, fS, fpk, pO2, fun z => absurd q5 z, fun _ => ⟨by omega, fun i hi => ?_, fun i hi => ?_⟩, kp⟩
    · rw [hp2 i (by omega)]
      have := hp1 i hi
      rw [Nat.zero_add] at this
      rw [this]
      exact Int32.zero_add _
    · have := hp3 i hi
      rw [Nat.zero_add] at this
      exact this
  · skip
    refine x_vret C d_St_spellOutAll_8 ?_
    exact ⟨rfl, np, po, pick, fS, fpk, pO, fun _ => ⟨rfl, rfl⟩, fun z => absurd z q5, kp⟩
