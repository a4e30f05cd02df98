/-! a total that is given already -/
set_option maxRecDepth 20000 in
set_option maxHeartbeats 1000000 in
theorem m_Ru_giveTotalE {V : xV} {h : xH} {U rd B : Nat} {st : Value} {on en fp sp : Int32} {tt : Int64} (fU : h U = some (oRu st 1 on en fp sp tt rd)) : xM V y_Ru_giveTotal b_Ru_giveTotal 3 (some .int) 0 [.ref U, .ref B] h 0 0 (fun v h' => h' = h ∧ v = some (.int 0)) := by
  refine xM_of false (by decide) (fun h => nomatch h) (Nat.le_of_ble_eq_true rfl) (fun K C => ?_)
  show K 0 0 h 0 [(0, .ref U), (1, .ref B)] []
  refine x_aload_n C d_Ru_giveTotal_0 rfl rfl ?_
  refine x_get C k_Ru f_Ru_19 d_Ru_giveTotal_1 fU (by rfl) ?_
  refine x_if_le (tgt := 9) C d_Ru_giveTotal_4 rfl (fun q4 => ?_) (fun q4 => ?_)
  · skip
    exact absurd q4 (by decide)
  · skip
    refine x_iconst (v := 0) C d_Ru_giveTotal_7 (by decide) ?_
    refine x_iret C d_Ru_giveTotal_8 ?_
    exact ⟨rfl, rfl⟩
set_option maxRecDepth 20000 in
set_option maxHeartbeats 1000000 in
theorem m_Ru_advanceT2 {V : xV} {h : xH} {U rd B S nb pk cd : Nat} {ls fi se fa nc np kc on fp sp : Int32} {tt : Int64} (fS : h S = some (oSt 3 ls fi se fa nc nb np pk kc cd)) (fU : h U = some (oRu (.ref S) 1 on 0 fp sp tt rd)) (hT : ls = 5 ∨ ls = 6) : xM V y_Ru_advance b_Ru_advance 3 (some .int) 6 [.ref U, .ref B] h 0 0 (fun v h' => v = some (.int 0) ∧ h' U = some (oRu (.ref S) 1 0 1 fp sp tt rd) ∧ xKeep [U] h h') := by
  refine xM_of false (by decide) (fun h => nomatch h) (Nat.le_of_ble_eq_true rfl) (fun K C => ?_)
  show K 0 0 h 0 [(0, .ref U), (1, .ref B)] []
  have kp : xKeep [U] h h := xKeep.rf
  refine x_aload_n C d_Ru_advance_0 rfl rfl ?_
  refine x_get C k_Ru f_Ru_27 d_Ru_advance_1 fU (by rfl) ?_
  refine x_if_eq (tgt := 9) C d_Ru_advance_4 rfl (fun q4 => ?_) (fun q4 => ?_)
  · skip
    refine x_iconst (v := 0) C d_Ru_advance_9 (by decide) ?_
    refine x_istore_n (lv' := [(2, _), (0, _), (1, _)]) C d_Ru_advance_10 rfl (by decide) (by rfl) ?_
    refine x_aload_n C d_Ru_advance_11 rfl rfl ?_
    refine x_get C k_Ru f_Ru_15 d_Ru_advance_12 fU (by rfl) ?_
    refine x_get C k_St f_Ru_36 d_Ru_advance_15 fS (by rfl) ?_
    refine x_tabOut (tgt := 98) C d_Ru_advance_18 (by decide) rfl ?_
    refine x_aload_n C d_Ru_advance_98 rfl rfl ?_
    refine x_get C k_Ru f_Ru_15 d_Ru_advance_99 fU (by rfl) ?_
    refine x_callV C l_Ru_61 v_St_hasTotal d_Ru_advance_102 (m_St_hasTotal fS) fS rfl (by rfl) (by rfl) (by decide) (by decide) (Nat.le_of_ble_eq_true rfl) ?_
    rintro v9 h9 ⟨rfl, rfl⟩
    refine x_if_eq (tgt := 116) C d_Ru_advance_105 rfl (fun q105 => ?_) (fun q105 => ?_)
    · skip
      replace q105 := bI_f q105
      rcases hT with z | z <;> (rw [z] at q105; exact absurd q105 (by decide))
    · skip
      replace q105 := bI_t q105
      refine x_aload_n C d_Ru_advance_108 rfl rfl ?_
      refine x_aload_n C d_Ru_advance_109 rfl rfl ?_
      refine x_callV C l_Ru_65 v_Ru_giveTotal d_Ru_advance_110 (m_Ru_giveTotalE fU) fU rfl (by rfl) (by rfl) (by decide) (by decide) (Nat.le_of_ble_eq_true rfl) ?_
      rintro v9 h9 ⟨rfl, rfl⟩
      refine x_goto (tgt := 121) C d_Ru_advance_113 rfl ?_
      refine x_istore_n (lv' := [(2, _), (0, _), (1, _)]) C d_Ru_advance_121 rfl (by decide) (by rfl) ?_
      refine x_aload_n C d_Ru_advance_122 rfl rfl ?_
      refine x_iload_n C d_Ru_advance_123 rfl rfl ?_
      refine x_callV C l_Ru_72 v_Ru_note d_Ru_advance_124 (m_Ru_note fU 0) fU rfl (by rfl) (by rfl) (by decide) (by decide) (Nat.le_of_ble_eq_true rfl) ?_
      rintro v1 h1 ⟨rfl, fU', kp1⟩
      have fS := kp1.get fS (nm_c (by first | assumption | exact Ne.symm (by assumption) | exact x_ne fS fU (by simp)) nm_n)
      have kp := kp.call kp1 (kc_c (Or.inl (by simp)) kc_n)
      have fU := fU'
      refine x_iload_n C d_Ru_advance_127 rfl rfl ?_
      refine x_iret C d_Ru_advance_128 ?_
      exact ⟨rfl, fU, kp⟩
  · skip
    exact absurd rfl q4
