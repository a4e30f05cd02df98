/-! CursorBase$Parser -/
set_option maxRecDepth 20000 in
set_option maxHeartbeats 1000000 in
theorem m_Pa_takeWordBetween {V : xV} {h : xH} {P T kr nr S : Nat} {ks ns : Nat → Int32} {n p : Nat} (fP : h P = some (oPa T S (nI p))) (pT : pTo V h T kr nr ks ns n) (hp : p ≤ 60) (lo hi : Int32) : xM V y_Pa_takeWordBetween b_Pa_takeWordBetween 3 (some .int) 1 [.ref P, .int lo, .int hi] h 0 0 (fun v h' => v = some (.int (if tW ks ns n p lo hi = true then ns p else -1)) ∧ h' P = some (oPa T S (nI (if tW ks ns n p lo hi = true then p + 1 else p))) ∧ xKeep [P] h h') := by
  refine xM_of false (by decide) (fun h => nomatch h) (Nat.le_of_ble_eq_true rfl) (fun K C => ?_)
  show K 0 0 h 0 [(0, .ref P), (1, .int lo), (2, .int hi)] []
  have kp : xKeep [P] h h := xKeep.rf
  obtain ⟨fT, fkr, fnr, hkn, hn60⟩ := pT
  refine x_aload_n C d_Pa_takeWordBetween_0 rfl rfl ?_
  refine x_get C k_Pa f_Pa_18 d_Pa_takeWordBetween_1 fP (by rfl) ?_
  refine x_aload_n C d_Pa_takeWordBetween_4 rfl rfl ?_
  refine x_get C k_Pa f_Pa_52 d_Pa_takeWordBetween_5 fP (by rfl) ?_
  refine x_iconst (v := 0) C d_Pa_takeWordBetween_8 (by decide) ?_
  refine x_callV C l_Pa_75 v_To_isKind d_Pa_takeWordBetween_9 (m_To_isKind ⟨fT, fkr, fnr, hkn, hn60⟩ (nI p) 0) fT rfl (by rfl) (by rfl) (by decide) (by decide) (Nat.le_of_ble_eq_true rfl) ?_
  rintro v h' ⟨rfl, rfl⟩
  rw [kd_eq (by omega) (by omega)]
  refine x_if_eq (tgt := 47) C d_Pa_takeWordBetween_12 rfl (fun q12 => ?_) (fun q12 => ?_)
  · skip
    replace q12 := bI_f q12
    have hk : ¬ (p < n ∧ ks p = 0) := fun z => by rw [tK_iff.mpr z] at q12; cases q12
    refine x_iconst (v := -1) C d_Pa_takeWordBetween_47 (by decide) ?_
    refine x_iret C d_Pa_takeWordBetween_48 ?_
    have ht : ¬ tW ks ns n p lo hi = true := fun z => by
      obtain ⟨z1, z2, z3, z4⟩ := tW_iff.mp z
      first | exact hk ⟨z1, z2⟩ | exact z3 q28 | exact absurd (Int32.not_lt.mp z4) q44
    rw [if_neg ht, if_neg ht]
    exact ⟨rfl, fP, kp⟩
  · skip
    replace q12 := bI_t q12
    have hk := tK_iff.mp q12
    refine x_aload_n C d_Pa_takeWordBetween_15 rfl rfl ?_
    refine x_get C k_Pa f_Pa_18 d_Pa_takeWordBetween_16 fP (by rfl) ?_
    refine x_get C k_To f_Pa_79 d_Pa_takeWordBetween_19 fT (by rfl) ?_
    refine x_aload_n C d_Pa_takeWordBetween_22 rfl rfl ?_
    refine x_get C k_Pa f_Pa_52 d_Pa_takeWordBetween_23 fP (by rfl) ?_
    refine x_iald C d_Pa_takeWordBetween_26 fnr (vp_in_nI (by omega) (by decide)) ?_
    rw [nI_clamp (by omega)]
    refine x_iload_n C d_Pa_takeWordBetween_27 rfl rfl ?_
    refine x_icmp_lt (tgt := 47) C d_Pa_takeWordBetween_28 rfl (fun q28 => ?_) (fun q28 => ?_)
    · skip
      refine x_iconst (v := -1) C d_Pa_takeWordBetween_47 (by decide) ?_
      refine x_iret C d_Pa_takeWordBetween_48 ?_
      have ht : ¬ tW ks ns n p lo hi = true := fun z => by
        obtain ⟨z1, z2, z3, z4⟩ := tW_iff.mp z
        first | exact hk ⟨z1, z2⟩ | exact z3 q28 | exact absurd (Int32.not_lt.mp z4) q44
      rw [if_neg ht, if_neg ht]
      exact ⟨rfl, fP, kp⟩
    · skip
      refine x_aload_n C d_Pa_takeWordBetween_31 rfl rfl ?_
      refine x_get C k_Pa f_Pa_18 d_Pa_takeWordBetween_32 fP (by rfl) ?_
      refine x_get C k_To f_Pa_79 d_Pa_takeWordBetween_35 fT (by rfl) ?_
      refine x_aload_n C d_Pa_takeWordBetween_38 rfl rfl ?_
      refine x_get C k_Pa f_Pa_52 d_Pa_takeWordBetween_39 fP (by rfl) ?_
      refine x_iald C d_Pa_takeWordBetween_42 fnr (vp_in_nI (by omega) (by decide)) ?_
      rw [nI_clamp (by omega)]
      refine x_iload_n C d_Pa_takeWordBetween_43 rfl rfl ?_
      refine x_icmp_le (tgt := 49) C d_Pa_takeWordBetween_44 rfl (fun q44 => ?_) (fun q44 => ?_)
      · skip
        refine x_aload_n C d_Pa_takeWordBetween_49 rfl rfl ?_
        refine x_dup C d_Pa_takeWordBetween_50 rfl ?_
        refine x_get C k_Pa f_Pa_52 d_Pa_takeWordBetween_51 fP (by rfl) ?_
        refine x_iconst (v := 1) C d_Pa_takeWordBetween_54 (by decide) ?_
        refine x_iadd C d_Pa_takeWordBetween_55 ?_
        refine x_put (fs' := [_, _, _]) C k_Pa f_Pa_52 d_Pa_takeWordBetween_56 fP (by rfl) (by rfl) (by rfl) (Nat.le_of_ble_eq_true rfl) (by rfl) (fun h1 u1 => ?_)
        have fT := xUp_ne u1 fT (by first | assumption | exact Ne.symm (by assumption) | exact x_ne fT fP (by simp))
        have fkr := xUp_ne u1 fkr (by first | assumption | exact Ne.symm (by assumption) | exact x_ne fkr fP (by simp))
        have fnr := xUp_ne u1 fnr (by first | assumption | exact Ne.symm (by assumption) | exact x_ne fnr fP (by simp))
        have fP := xUp_at u1
        have kp := kp.up u1 (by simp)
        refine x_aload_n C d_Pa_takeWordBetween_59 rfl rfl ?_
        refine x_get C k_Pa f_Pa_18 d_Pa_takeWordBetween_60 fP (by rfl) ?_
        refine x_get C k_To f_Pa_79 d_Pa_takeWordBetween_63 fT (by rfl) ?_
        refine x_aload_n C d_Pa_takeWordBetween_66 rfl rfl ?_
        refine x_get C k_Pa f_Pa_52 d_Pa_takeWordBetween_67 fP (by rfl) ?_
        refine x_iconst (v := 1) C d_Pa_takeWordBetween_70 (by decide) ?_
        refine x_isub C d_Pa_takeWordBetween_71 ?_
        rw [nI_1, nI_pred]
        refine x_iald C d_Pa_takeWordBetween_72 fnr (vp_in_nI (by omega) (by decide)) ?_
        rw [nI_clamp (by omega)]
        refine x_iret C d_Pa_takeWordBetween_73 ?_
        have ht : tW ks ns n p lo hi = true := tW_iff.mpr ⟨hk.1, hk.2, q28, Int32.not_lt.mpr q44⟩
        rw [if_pos ht, if_pos ht]
        exact ⟨rfl, by rw [fP, nI_1], kp⟩
      · skip
        refine x_iconst (v := -1) C d_Pa_takeWordBetween_47 (by decide) ?_
        refine x_iret C d_Pa_takeWordBetween_48 ?_
        have ht : ¬ tW ks ns n p lo hi = true := fun z => by
          obtain ⟨z1, z2, z3, z4⟩ := tW_iff.mp z
          first | exact hk ⟨z1, z2⟩ | exact z3 q28 | exact absurd (Int32.not_lt.mp z4) q44
        rw [if_neg ht, if_neg ht]
        exact ⟨rfl, fP, kp⟩
set_option maxRecDepth 20000 in
set_option maxHeartbeats 1000000 in
theorem m_Pa_takeTable {V : xV} {h : xH} {P T kr nr S : Nat} {ks ns : Nat → Int32} {n p : Nat} (fP : h P = some (oPa T S (nI p))) (pT : pTo V h T kr nr ks ns n) (hp : p ≤ 60) : xM V y_Pa_takeTable b_Pa_takeTable 1 (some .int) 1 [.ref P] h 0 0 (fun v h' => v = some (.int (if tK ks n p 1 = true then ns p else -1)) ∧ h' P = some (oPa T S (nI (if tK ks n p 1 = true then p + 1 else p))) ∧ xKeep [P] h h') := by
  refine xM_of false (by decide) (fun h => nomatch h) (Nat.le_of_ble_eq_true rfl) (fun K C => ?_)
  show K 0 0 h 0 [(0, .ref P)] []
  have kp : xKeep [P] h h := xKeep.rf
  obtain ⟨fT, fkr, fnr, hkn, hn60⟩ := pT
  refine x_aload_n C d_Pa_takeTable_0 rfl rfl ?_
  refine x_get C k_Pa f_Pa_18 d_Pa_takeTable_1 fP (by rfl) ?_
  refine x_aload_n C d_Pa_takeTable_4 rfl rfl ?_
  refine x_get C k_Pa f_Pa_52 d_Pa_takeTable_5 fP (by rfl) ?_
  refine x_iconst (v := 1) C d_Pa_takeTable_8 (by decide) ?_
  refine x_callV C l_Pa_75 v_To_isKind d_Pa_takeTable_9 (m_To_isKind ⟨fT, fkr, fnr, hkn, hn60⟩ (nI p) 1) fT rfl (by rfl) (by rfl) (by decide) (by decide) (Nat.le_of_ble_eq_true rfl) ?_
  rintro v h' ⟨rfl, rfl⟩
  rw [kd_eq (by omega) (by omega)]
  refine x_if_ne (tgt := 17) C d_Pa_takeTable_12 rfl (fun q12 => ?_) (fun q12 => ?_)
  · skip
    replace q12 := bI_t q12
    have hk := tK_iff.mp q12
    refine x_aload_n C d_Pa_takeTable_17 rfl rfl ?_
    refine x_dup C d_Pa_takeTable_18 rfl ?_
    refine x_get C k_Pa f_Pa_52 d_Pa_takeTable_19 fP (by rfl) ?_
    refine x_iconst (v := 1) C d_Pa_takeTable_22 (by decide) ?_
    refine x_iadd C d_Pa_takeTable_23 ?_
    refine x_put (fs' := [_, _, _]) C k_Pa f_Pa_52 d_Pa_takeTable_24 fP (by rfl) (by rfl) (by rfl) (Nat.le_of_ble_eq_true rfl) (by rfl) (fun h1 u1 => ?_)
    have fT := xUp_ne u1 fT (by first | assumption | exact Ne.symm (by assumption) | exact x_ne fT fP (by simp))
    have fkr := xUp_ne u1 fkr (by first | assumption | exact Ne.symm (by assumption) | exact x_ne fkr fP (by simp))
    have fnr := xUp_ne u1 fnr (by first | assumption | exact Ne.symm (by assumption) | exact x_ne fnr fP (by simp))
    have fP := xUp_at u1
    have kp := kp.up u1 (by simp)
    refine x_aload_n C d_Pa_takeTable_27 rfl rfl ?_
    refine x_get C k_Pa f_Pa_18 d_Pa_takeTable_28 fP (by rfl) ?_
    refine x_get C k_To f_Pa_79 d_Pa_takeTable_31 fT (by rfl) ?_
    refine x_aload_n C d_Pa_takeTable_34 rfl rfl ?_
    refine x_get C k_Pa f_Pa_52 d_Pa_takeTable_35 fP (by rfl) ?_
    refine x_iconst (v := 1) C d_Pa_takeTable_38 (by decide) ?_
    refine x_isub C d_Pa_takeTable_39 ?_
    rw [nI_1, nI_pred]
    refine x_iald C d_Pa_takeTable_40 fnr (vp_in_nI (by omega) (by decide)) ?_
    rw [nI_clamp (by omega)]
    refine x_iret C d_Pa_takeTable_41 ?_
    rw [if_pos q12, if_pos q12]
    exact ⟨rfl, by rw [fP, nI_1], kp⟩
  · skip
    replace q12 := bI_f q12
    refine x_iconst (v := -1) C d_Pa_takeTable_15 (by decide) ?_
    refine x_iret C d_Pa_takeTable_16 ?_
    rw [if_neg (by rw [q12]; decide), if_neg (by rw [q12]; decide)]
    exact ⟨rfl, fP, kp⟩
set_option maxRecDepth 20000 in
set_option maxHeartbeats 1000000 in
theorem m_Pa_takeWord {V : xV} {h : xH} {P T kr nr S : Nat} {ks ns : Nat → Int32} {n p : Nat} (fP : h P = some (oPa T S (nI p))) (pT : pTo V h T kr nr ks ns n) (hp : p ≤ 60) (wd : Int32) (hwd : ¬ wd = -1) : xM V y_Pa_takeWord b_Pa_takeWord 2 (some .boolean) 2 [.ref P, .int wd] h 0 0 (fun v h' => v = some (.int (bI (tW ks ns n p wd wd))) ∧ h' P = some (oPa T S (nI (if tW ks ns n p wd wd = true then p + 1 else p))) ∧ xKeep [P] h h') := by
  refine xM_of false (by decide) (fun h => nomatch h) (Nat.le_of_ble_eq_true rfl) (fun K C => ?_)
  show K 0 0 h 0 [(0, .ref P), (1, .int wd)] []
  have kp : xKeep [P] h h := xKeep.rf
  obtain ⟨fT, fkr, fnr, hkn, hn60⟩ := pT
  refine x_aload_n C d_Pa_takeWord_0 rfl rfl ?_
  refine x_iload_n C d_Pa_takeWord_1 rfl rfl ?_
  refine x_iload_n C d_Pa_takeWord_2 rfl rfl ?_
  refine x_callV C l_Pa_22 v_Pa_takeWordBetween d_Pa_takeWord_3 (m_Pa_takeWordBetween fP ⟨fT, fkr, fnr, hkn, hn60⟩ hp wd wd) fP rfl (by rfl) (by rfl) (by decide) (by decide) (Nat.le_of_ble_eq_true rfl) ?_
  rintro v1 h1 ⟨rfl, fP', kp1⟩
  have fT := kp1.get fT (nm_c (by first | assumption | exact Ne.symm (by assumption) | exact x_ne fT fP (by simp)) nm_n)
  have fkr := kp1.get fkr (nm_c (by first | assumption | exact Ne.symm (by assumption) | exact x_ne fkr fP (by simp)) nm_n)
  have fnr := kp1.get fnr (nm_c (by first | assumption | exact Ne.symm (by assumption) | exact x_ne fnr fP (by simp)) nm_n)
  have kp := kp.call kp1 (kc_c (Or.inl (by simp)) kc_n)
  have fP := fP'
  refine x_iload_n C d_Pa_takeWord_6 rfl rfl ?_
  refine x_icmp_ne (tgt := 14) C d_Pa_takeWord_7 rfl (fun q7 => ?_) (fun q7 => ?_)
  · skip
    refine x_iconst (v := 0) C d_Pa_takeWord_14 (by decide) ?_
    refine x_zret C d_Pa_takeWord_15 (by rfl) ?_
    refine ⟨?_, fP, kp⟩
    by_cases ht : tW ks ns n p wd wd = true
    · rw [if_pos ht] at q7
      have hz := tW_iff.mp ht
      have he : ns p = wd := Int32.le_antisymm (Int32.not_lt.mp hz.2.2.2) (Int32.not_lt.mp hz.2.2.1)
      rw [ht]
      first | exact absurd he q7 | rfl
    · rw [if_neg ht] at q7
      rw [Bool.eq_false_iff.mpr ht]
      first | exact absurd q7.symm hwd | rfl
  · skip
    refine x_iconst (v := 1) C d_Pa_takeWord_10 (by decide) ?_
    refine x_goto (tgt := 15) C d_Pa_takeWord_11 rfl ?_
    refine x_zret C d_Pa_takeWord_15 (by rfl) ?_
    refine ⟨?_, fP, kp⟩
    by_cases ht : tW ks ns n p wd wd = true
    · rw [if_pos ht] at q7
      have hz := tW_iff.mp ht
      have he : ns p = wd := Int32.le_antisymm (Int32.not_lt.mp hz.2.2.2) (Int32.not_lt.mp hz.2.2.1)
      rw [ht]
      first | exact absurd he q7 | rfl
    · rw [if_neg ht] at q7
      rw [Bool.eq_false_iff.mpr ht]
      first | exact absurd q7.symm hwd | rfl
set_option maxRecDepth 20000 in
set_option maxHeartbeats 1000000 in
theorem m_Pa_takeFirstTable {V : xV} {h : xH} {P T kr nr S : Nat} {ks ns : Nat → Int32} {n p : Nat} (fP : h P = some (oPa T S (nI p))) (pT : pTo V h T kr nr ks ns n) (hp : p ≤ 60) {nb pk cd : Nat} {vb ls fi se fa nc np kc : Int32} (fS : h S = some (oSt vb ls fi se fa nc nb np pk kc cd)) : xM V y_Pa_takeFirstTable b_Pa_takeFirstTable 1 (some .boolean) 2 [.ref P] h 0 0 (fun v h' => v = some (.int (bI (!decide ((if tK ks n p 1 = true then ns p else -1) = -1)))) ∧ h' P = some (oPa T S (nI (if tK ks n p 1 = true then p + 1 else p))) ∧ h' S = some (oSt vb ls (if tK ks n p 1 = true then ns p else -1) se fa nc nb np pk kc cd) ∧ xKeep [P, S] h h') := by
  refine xM_of false (by decide) (fun h => nomatch h) (Nat.le_of_ble_eq_true rfl) (fun K C => ?_)
  show K 0 0 h 0 [(0, .ref P)] []
  have kp : xKeep [P, S] h h := xKeep.rf
  obtain ⟨fT, fkr, fnr, hkn, hn60⟩ := pT
  refine x_aload_n C d_Pa_takeFirstTable_0 rfl rfl ?_
  refine x_get C k_Pa f_Pa_12 d_Pa_takeFirstTable_1 fP (by rfl) ?_
  refine x_aload_n C d_Pa_takeFirstTable_4 rfl rfl ?_
  refine x_callV C l_Pa_64 v_Pa_takeTable d_Pa_takeFirstTable_5 (m_Pa_takeTable fP ⟨fT, fkr, fnr, hkn, hn60⟩ hp) fP rfl (by rfl) (by rfl) (by decide) (by decide) (Nat.le_of_ble_eq_true rfl) ?_
  rintro v1 h1 ⟨rfl, fP', kp1⟩
  have fT := kp1.get fT (nm_c (by first | assumption | exact Ne.symm (by assumption) | exact x_ne fT fP (by simp)) nm_n)
  have fkr := kp1.get fkr (nm_c (by first | assumption | exact Ne.symm (by assumption) | exact x_ne fkr fP (by simp)) nm_n)
  have fnr := kp1.get fnr (nm_c (by first | assumption | exact Ne.symm (by assumption) | exact x_ne fnr fP (by simp)) nm_n)
  have fS := kp1.get fS (nm_c (by first | assumption | exact Ne.symm (by assumption) | exact x_ne fS fP (by simp)) nm_n)
  have kp := kp.call kp1 (kc_c (Or.inl (by simp)) kc_n)
  have fP := fP'
  refine x_put (fs' := [_, _, _, _, _, _, _, _, _, _, _]) C k_St f_Pa_83 d_Pa_takeFirstTable_8 fS (by rfl) (by rfl) (by rfl) (Nat.le_of_ble_eq_true rfl) (by rfl) (fun h2 u2 => ?_)
  have fP := xUp_ne u2 fP (by first | assumption | exact Ne.symm (by assumption) | exact x_ne fP fS (by simp))
  have fT := xUp_ne u2 fT (by first | assumption | exact Ne.symm (by assumption) | exact x_ne fT fS (by simp))
  have fkr := xUp_ne u2 fkr (by first | assumption | exact Ne.symm (by assumption) | exact x_ne fkr fS (by simp))
  have fnr := xUp_ne u2 fnr (by first | assumption | exact Ne.symm (by assumption) | exact x_ne fnr fS (by simp))
  have fS := xUp_at u2
  have kp := kp.up u2 (by simp)
  refine x_aload_n C d_Pa_takeFirstTable_11 rfl rfl ?_
  refine x_get C k_Pa f_Pa_12 d_Pa_takeFirstTable_12 fP (by rfl) ?_
  refine x_get C k_St f_Pa_83 d_Pa_takeFirstTable_15 fS (by rfl) ?_
  refine x_iconst (v := -1) C d_Pa_takeFirstTable_18 (by decide) ?_
  refine x_icmp_eq (tgt := 26) C d_Pa_takeFirstTable_19 rfl (fun q19 => ?_) (fun q19 => ?_)
  · skip
    refine x_iconst (v := 0) C d_Pa_takeFirstTable_26 (by decide) ?_
    refine x_zret C d_Pa_takeFirstTable_27 (by rfl) ?_
    refine ⟨?_, fP, fS, kp⟩
    simp [q19, bI]
  · skip
    refine x_iconst (v := 1) C d_Pa_takeFirstTable_22 (by decide) ?_
    refine x_goto (tgt := 27) C d_Pa_takeFirstTable_23 rfl ?_
    refine x_zret C d_Pa_takeFirstTable_27 (by rfl) ?_
    refine ⟨?_, fP, fS, kp⟩
    simp [q19, bI]
set_option maxRecDepth 20000 in
set_option maxHeartbeats 1000000 in
theorem m_Pa_takeFrom {V : xV} {h : xH} {P T kr nr S : Nat} {ks ns : Nat → Int32} {n p : Nat} (fP : h P = some (oPa T S (nI p))) (pT : pTo V h T kr nr ks ns n) (hp : p ≤ 60) {nb pk cd : Nat} {vb ls fi se fa nc np kc : Int32} (fS : h S = some (oSt vb ls fi se fa nc nb np pk kc cd)) : xM V y_Pa_takeFrom b_Pa_takeFrom 1 (some .boolean) 3 [.ref P] h 0 0 (fun v h' => ∃ ok : Bool, v = some (.int (bI ok)) ∧ xKeep [P, S] h h' ∧ (ok = true ↔ tW ks ns n p 7 7 = true ∧ tK ks n (p + 1) 1 = true ∧ ¬ ns (p + 1) = -1) ∧ (ok = true → h' P = some (oPa T S (nI (if tK ks n (p + 2) 1 = true then p + 3 else p + 2))) ∧ h' S = some (oSt vb ls (ns (p + 1)) (if tK ks n (p + 2) 1 = true then ns (p + 2) else -1) fa nc nb np pk kc cd))) := by
  refine xM_of false (by decide) (fun h => nomatch h) (Nat.le_of_ble_eq_true rfl) (fun K C => ?_)
  show K 0 0 h 0 [(0, .ref P)] []
  have kp : xKeep [P, S] h h := xKeep.rf
  obtain ⟨fT, fkr, fnr, hkn, hn60⟩ := pT
  refine x_aload_n C d_Pa_takeFrom_0 rfl rfl ?_
  refine x_bipush (v := 7) C d_Pa_takeFrom_1 (by decide) ?_
  refine x_callV C l_Pa_60 v_Pa_takeWord d_Pa_takeFrom_3 (m_Pa_takeWord fP ⟨fT, fkr, fnr, hkn, hn60⟩ hp 7 (by decide)) fP rfl (by rfl) (by rfl) (by decide) (by decide) (Nat.le_of_ble_eq_true rfl) ?_
  rintro v1 h1 ⟨rfl, fP', kp1⟩
  have fT := kp1.get fT (nm_c (by first | assumption | exact Ne.symm (by assumption) | exact x_ne fT fP (by simp)) nm_n)
  have fkr := kp1.get fkr (nm_c (by first | assumption | exact Ne.symm (by assumption) | exact x_ne fkr fP (by simp)) nm_n)
  have fnr := kp1.get fnr (nm_c (by first | assumption | exact Ne.symm (by assumption) | exact x_ne fnr fP (by simp)) nm_n)
  have fS := kp1.get fS (nm_c (by first | assumption | exact Ne.symm (by assumption) | exact x_ne fS fP (by simp)) nm_n)
  have kp := kp.call kp1 (kc_c (Or.inl (by simp)) kc_n)
  have fP := fP'
  refine x_if_eq (tgt := 16) C d_Pa_takeFrom_6 rfl (fun q6 => ?_) (fun q6 => ?_)
  · skip
    replace q6 := bI_f q6
    refine x_iconst (v := 0) C d_Pa_takeFrom_16 (by decide) ?_
    refine x_zret C d_Pa_takeFrom_17 (by rfl) ?_
    refine ⟨false, rfl, kp, ⟨fun z => (by cases z), fun z => ?_⟩, fun z => (by cases z)⟩
    first | (rw [z.1] at q6; cases q6; done) | (rw [if_pos z.2.1] at hq; exact absurd hq z.2.2)
  · skip
    replace q6 := bI_t q6
    rw [if_pos q6] at fP
    have hw := tW_iff.mp q6
    refine x_aload_n C d_Pa_takeFrom_9 rfl rfl ?_
    refine x_callV C l_Pa_30 v_Pa_takeFirstTable d_Pa_takeFrom_10 (m_Pa_takeFirstTable (p := p + 1) fP ⟨fT, fkr, fnr, hkn, hn60⟩ (by omega) fS) fP rfl (by rfl) (by rfl) (by decide) (by decide) (Nat.le_of_ble_eq_true rfl) ?_
    rintro v2 h2 ⟨rfl, fP', fS', kp2⟩
    have fT := kp2.get fT (nm_c (by first | assumption | exact Ne.symm (by assumption) | exact x_ne fT fP (by simp)) (nm_c (by first | assumption | exact Ne.symm (by assumption) | exact x_ne fT fS (by simp)) nm_n))
    have fkr := kp2.get fkr (nm_c (by first | assumption | exact Ne.symm (by assumption) | exact x_ne fkr fP (by simp)) (nm_c (by first | assumption | exact Ne.symm (by assumption) | exact x_ne fkr fS (by simp)) nm_n))
    have fnr := kp2.get fnr (nm_c (by first | assumption | exact Ne.symm (by assumption) | exact x_ne fnr fP (by simp)) (nm_c (by first | assumption | exact Ne.symm (by assumption) | exact x_ne fnr fS (by simp)) nm_n))
    have kp := kp.call kp2 (kc_c (Or.inl (by simp)) (kc_c (Or.inl (by simp)) kc_n))
    have fP := fP'
    have fS := fS'
    refine x_if_ne (tgt := 18) C d_Pa_takeFrom_13 rfl (fun q13 => ?_) (fun q13 => ?_)
    · skip
      replace q13 := bI_t q13
      have hq : ¬ (if tK ks n (p + 1) 1 = true then ns (p + 1) else -1) = -1 := by simpa using q13
      have ht1 : tK ks n (p + 1) 1 = true := by
        by_cases z : tK ks n (p + 1) 1 = true
        · exact z
        · rw [if_neg z] at hq; exact absurd rfl hq
      have hlt := (tK_iff.mp ht1).1
      rw [if_pos ht1] at hq
      rw [if_pos ht1] at fP fS
      refine x_aload_n C d_Pa_takeFrom_18 rfl rfl ?_
      refine x_get C k_Pa f_Pa_12 d_Pa_takeFrom_19 fP (by rfl) ?_
      refine x_aload_n C d_Pa_takeFrom_22 rfl rfl ?_
      refine x_callV C l_Pa_64 v_Pa_takeTable d_Pa_takeFrom_23 (m_Pa_takeTable (p := p + 2) fP ⟨fT, fkr, fnr, hkn, hn60⟩ (by omega)) fP rfl (by rfl) (by rfl) (by decide) (by decide) (Nat.le_of_ble_eq_true rfl) ?_
      rintro v3 h3 ⟨rfl, fP', kp3⟩
      have fT := kp3.get fT (nm_c (by first | assumption | exact Ne.symm (by assumption) | exact x_ne fT fP (by simp)) nm_n)
      have fkr := kp3.get fkr (nm_c (by first | assumption | exact Ne.symm (by assumption) | exact x_ne fkr fP (by simp)) nm_n)
      have fnr := kp3.get fnr (nm_c (by first | assumption | exact Ne.symm (by assumption) | exact x_ne fnr fP (by simp)) nm_n)
      have fS := kp3.get fS (nm_c (by first | assumption | exact Ne.symm (by assumption) | exact x_ne fS fP (by simp)) nm_n)
      have kp := kp.call kp3 (kc_c (Or.inl (by simp)) kc_n)
      have fP := fP'
      refine x_put (fs' := [_, _, _, _, _, _, _, _, _, _, _]) C k_St f_Pa_68 d_Pa_takeFrom_26 fS (by rfl) (by rfl) (by rfl) (Nat.le_of_ble_eq_true rfl) (by rfl) (fun h4 u4 => ?_)
      have fP := xUp_ne u4 fP (by first | assumption | exact Ne.symm (by assumption) | exact x_ne fP fS (by simp))
      have fT := xUp_ne u4 fT (by first | assumption | exact Ne.symm (by assumption) | exact x_ne fT fS (by simp))
      have fkr := xUp_ne u4 fkr (by first | assumption | exact Ne.symm (by assumption) | exact x_ne fkr fS (by simp))
      have fnr := xUp_ne u4 fnr (by first | assumption | exact Ne.symm (by assumption) | exact x_ne fnr fS (by simp))
      have fS := xUp_at u4
      have kp := kp.up u4 (by simp)
      refine x_iconst (v := 1) C d_Pa_takeFrom_29 (by decide) ?_
      refine x_zret C d_Pa_takeFrom_30 (by rfl) ?_
      exact ⟨true, rfl, kp, ⟨fun _ => ⟨q6, ht1, hq⟩, fun _ => rfl⟩, fun _ => ⟨fP, fS⟩⟩
    · skip
      replace q13 := bI_f q13
      have hq : (if tK ks n (p + 1) 1 = true then ns (p + 1) else -1) = -1 := by simpa using q13
      refine x_iconst (v := 0) C d_Pa_takeFrom_16 (by decide) ?_
      refine x_zret C d_Pa_takeFrom_17 (by rfl) ?_
      refine ⟨false, rfl, kp, ⟨fun z => (by cases z), fun z => ?_⟩, fun z => (by cases z)⟩
      first | (rw [z.1] at q6; cases q6; done) | (rw [if_pos z.2.1] at hq; exact absurd hq z.2.2)
set_option maxRecDepth 20000 in
set_option maxHeartbeats 1000000 in
theorem m_Pa_takeOrder {V : xV} {h : xH} {P T kr nr S : Nat} {ks ns : Nat → Int32} {n p : Nat} (fP : h P = some (oPa T S (nI p))) (pT : pTo V h T kr nr ks ns n) (hp : p ≤ 60) {nb pk cd : Nat} {vb ls fi se fa nc np kc : Int32} (fS : h S = some (oSt vb ls fi se fa nc nb np pk kc cd)) : xM V y_Pa_takeOrder b_Pa_takeOrder 1 (some .boolean) 3 [.ref P] h 0 0 (fun v h' => v = some (.int 1) ∧ h' P = some (oPa T S (nI (if tW ks ns n p 13 13 = true then p + 1 else p))) ∧ h' S = some (oSt vb ls fi se (bI (tW ks ns n p 13 13)) nc nb np pk kc cd) ∧ xKeep [P, S] h h') := by
  refine xM_of false (by decide) (fun h => nomatch h) (Nat.le_of_ble_eq_true rfl) (fun K C => ?_)
  show K 0 0 h 0 [(0, .ref P)] []
  have kp : xKeep [P, S] h h := xKeep.rf
  obtain ⟨fT, fkr, fnr, hkn, hn60⟩ := pT
  refine x_aload_n C d_Pa_takeOrder_0 rfl rfl ?_
  refine x_get C k_Pa f_Pa_12 d_Pa_takeOrder_1 fP (by rfl) ?_
  refine x_aload_n C d_Pa_takeOrder_4 rfl rfl ?_
  refine x_bipush (v := 13) C d_Pa_takeOrder_5 (by decide) ?_
  refine x_callV C l_Pa_60 v_Pa_takeWord d_Pa_takeOrder_7 (m_Pa_takeWord fP ⟨fT, fkr, fnr, hkn, hn60⟩ hp 13 (by decide)) fP rfl (by rfl) (by rfl) (by decide) (by decide) (Nat.le_of_ble_eq_true rfl) ?_
  rintro v1 h1 ⟨rfl, fP', kp1⟩
  have fT := kp1.get fT (nm_c (by first | assumption | exact Ne.symm (by assumption) | exact x_ne fT fP (by simp)) nm_n)
  have fkr := kp1.get fkr (nm_c (by first | assumption | exact Ne.symm (by assumption) | exact x_ne fkr fP (by simp)) nm_n)
  have fnr := kp1.get fnr (nm_c (by first | assumption | exact Ne.symm (by assumption) | exact x_ne fnr fP (by simp)) nm_n)
  have fS := kp1.get fS (nm_c (by first | assumption | exact Ne.symm (by assumption) | exact x_ne fS fP (by simp)) nm_n)
  have kp := kp.call kp1 (kc_c (Or.inl (by simp)) kc_n)
  have fP := fP'
  refine x_put (fs' := [_, _, _, _, _, _, _, _, _, _, _]) C k_St f_Pa_71 d_Pa_takeOrder_10 fS (by rfl) (by cases tW ks ns n p 13 13 <;> rfl) (by cases tW ks ns n p 13 13 <;> rfl) (Nat.le_of_ble_eq_true rfl) (by rfl) (fun h2 u2 => ?_)
  have fP := xUp_ne u2 fP (by first | assumption | exact Ne.symm (by assumption) | exact x_ne fP fS (by simp))
  have fT := xUp_ne u2 fT (by first | assumption | exact Ne.symm (by assumption) | exact x_ne fT fS (by simp))
  have fkr := xUp_ne u2 fkr (by first | assumption | exact Ne.symm (by assumption) | exact x_ne fkr fS (by simp))
  have fnr := xUp_ne u2 fnr (by first | assumption | exact Ne.symm (by assumption) | exact x_ne fnr fS (by simp))
  have fS := xUp_at u2
  have kp := kp.up u2 (by simp)
  refine x_iconst (v := 1) C d_Pa_takeOrder_13 (by decide) ?_
  refine x_zret C d_Pa_takeOrder_14 (by rfl) ?_
  exact ⟨rfl, fP, fS, kp⟩
set_option maxRecDepth 20000 in
set_option maxHeartbeats 1000000 in
theorem m_Pa_takeNumber {V : xV} {h : xH} {P T kr nr S : Nat} {ks ns : Nat → Int32} {n p : Nat} (fP : h P = some (oPa T S (nI p))) (pT : pTo V h T kr nr ks ns n) (hp : p ≤ 60) {nb pk cd nc : Nat} {vb ls fi se fa np kc : Int32} {g : Nat → Int32} (fS : h S = some (oSt vb ls fi se fa (nI nc) nb np pk kc cd)) (fnb : h nb = some (xI V 6 g)) (hnc : nc < 1000) : xM V y_Pa_takeNumber b_Pa_takeNumber 1 (some .boolean) 2 [.ref P] h 0 0 (fun v h' => v = some (.int (bI (tK ks n p 3))) ∧ h' P = some (oPa T S (nI (if tK ks n p 3 = true then p + 1 else p))) ∧ h' S = some (oSt vb ls fi se fa (nI (if tK ks n p 3 = true then nc + 1 else nc)) nb np pk kc cd) ∧ h' nb = some (xI V 6 (if tK ks n p 3 = true then (if nc < 6 then upd g nc (ns p) else g) else g)) ∧ xKeep [P, S, nb] h h') := by
  refine xM_of false (by decide) (fun h => nomatch h) (Nat.le_of_ble_eq_true rfl) (fun K C => ?_)
  show K 0 0 h 0 [(0, .ref P)] []
  have kp : xKeep [P, S, nb] h h := xKeep.rf
  obtain ⟨fT, fkr, fnr, hkn, hn60⟩ := pT
  refine x_aload_n C d_Pa_takeNumber_0 rfl rfl ?_
  refine x_get C k_Pa f_Pa_18 d_Pa_takeNumber_1 fP (by rfl) ?_
  refine x_aload_n C d_Pa_takeNumber_4 rfl rfl ?_
  refine x_get C k_Pa f_Pa_52 d_Pa_takeNumber_5 fP (by rfl) ?_
  refine x_iconst (v := 3) C d_Pa_takeNumber_8 (by decide) ?_
  refine x_callV C l_Pa_75 v_To_isKind d_Pa_takeNumber_9 (m_To_isKind ⟨fT, fkr, fnr, hkn, hn60⟩ (nI p) 3) fT rfl (by rfl) (by rfl) (by decide) (by decide) (Nat.le_of_ble_eq_true rfl) ?_
  rintro v h' ⟨rfl, rfl⟩
  rw [kd_eq (by omega) (by omega)]
  refine x_if_ne (tgt := 17) C d_Pa_takeNumber_12 rfl (fun q12 => ?_) (fun q12 => ?_)
  · skip
    replace q12 := bI_t q12
    have hk := tK_iff.mp q12
    refine x_aload_n C d_Pa_takeNumber_17 rfl rfl ?_
    refine x_get C k_Pa f_Pa_12 d_Pa_takeNumber_18 fP (by rfl) ?_
    refine x_aload_n C d_Pa_takeNumber_21 rfl rfl ?_
    refine x_get C k_Pa f_Pa_18 d_Pa_takeNumber_22 fP (by rfl) ?_
    refine x_get C k_To f_Pa_79 d_Pa_takeNumber_25 fT (by rfl) ?_
    refine x_aload_n C d_Pa_takeNumber_28 rfl rfl ?_
    refine x_get C k_Pa f_Pa_52 d_Pa_takeNumber_29 fP (by rfl) ?_
    refine x_iald C d_Pa_takeNumber_32 fnr (vp_in_nI (by omega) (by decide)) ?_
    rw [nI_clamp (by omega)]
    refine x_callV C l_Pa_86 v_St_addNumber d_Pa_takeNumber_33 (m_St_addNumber fS fnb hnc (ns p)) fS rfl (by rfl) (by rfl) (by decide) (by decide) (Nat.le_of_ble_eq_true rfl) ?_
    rintro v1 h1 ⟨rfl, fS', fnb', kp1⟩
    have fP := kp1.get fP (nm_c (by first | assumption | exact Ne.symm (by assumption) | exact x_ne fP fS (by simp)) (nm_c (by first | assumption | exact Ne.symm (by assumption) | exact x_ne fP fnb (by simp)) nm_n))
    have fT := kp1.get fT (nm_c (by first | assumption | exact Ne.symm (by assumption) | exact x_ne fT fS (by simp)) (nm_c (by first | assumption | exact Ne.symm (by assumption) | exact x_ne fT fnb (by simp)) nm_n))
    have fkr := kp1.get fkr (nm_c (by first | assumption | exact Ne.symm (by assumption) | exact x_ne fkr fS (by simp)) (nm_c (by first | assumption | exact Ne.symm (by assumption) | exact x_ne fkr fnb (by simp)) nm_n))
    have fnr := kp1.get fnr (nm_c (by first | assumption | exact Ne.symm (by assumption) | exact x_ne fnr fS (by simp)) (nm_c (by first | assumption | exact Ne.symm (by assumption) | exact x_ne fnr fnb (by simp)) nm_n))
    have kp := kp.call kp1 (kc_c (Or.inl (by simp)) (kc_c (Or.inl (by simp)) kc_n))
    have fS := fS'
    have fnb := fnb'
    refine x_aload_n C d_Pa_takeNumber_36 rfl rfl ?_
    refine x_dup C d_Pa_takeNumber_37 rfl ?_
    refine x_get C k_Pa f_Pa_52 d_Pa_takeNumber_38 fP (by rfl) ?_
    refine x_iconst (v := 1) C d_Pa_takeNumber_41 (by decide) ?_
    refine x_iadd C d_Pa_takeNumber_42 ?_
    refine x_put (fs' := [_, _, _]) C k_Pa f_Pa_52 d_Pa_takeNumber_43 fP (by rfl) (by rfl) (by rfl) (Nat.le_of_ble_eq_true rfl) (by rfl) (fun h2 u2 => ?_)
    have fT := xUp_ne u2 fT (by first | assumption | exact Ne.symm (by assumption) | exact x_ne fT fP (by simp))
    have fkr := xUp_ne u2 fkr (by first | assumption | exact Ne.symm (by assumption) | exact x_ne fkr fP (by simp))
    have fnr := xUp_ne u2 fnr (by first | assumption | exact Ne.symm (by assumption) | exact x_ne fnr fP (by simp))
    have fS := xUp_ne u2 fS (by first | assumption | exact Ne.symm (by assumption) | exact x_ne fS fP (by simp))
    have fnb := xUp_ne u2 fnb (by first | assumption | exact Ne.symm (by assumption) | exact x_ne fnb fP (by simp))
    have fP := xUp_at u2
    have kp := kp.up u2 (by simp)
    refine x_iconst (v := 1) C d_Pa_takeNumber_46 (by decide) ?_
    refine x_zret C d_Pa_takeNumber_47 (by rfl) ?_
    rw [if_pos q12, if_pos q12, if_pos q12, q12]
    exact ⟨rfl, by rw [fP, nI_1], fS, fnb, kp⟩
  · skip
    replace q12 := bI_f q12
    refine x_iconst (v := 0) C d_Pa_takeNumber_15 (by decide) ?_
    refine x_zret C d_Pa_takeNumber_16 (by rfl) ?_
    have hz : ¬ tK ks n p 3 = true := by rw [q12]; decide
    rw [if_neg hz, if_neg hz, if_neg hz, q12]
    exact ⟨rfl, fP, fS, fnb, kp⟩
set_option maxRecDepth 20000 in
set_option maxHeartbeats 1000000 in
theorem m_Pa_takeOperand {V : xV} {h : xH} {P T kr nr S : Nat} {ks ns : Nat → Int32} {n p : Nat} (fP : h P = some (oPa T S (nI p))) (pT : pTo V h T kr nr ks ns n) (hp : p ≤ 60) : xM V y_Pa_takeOperand b_Pa_takeOperand 1 (some (.object "CursorBase$Operand")) 2 [.ref P] h 1 2 (fun v h' => (tOp ks n p = false ∧ v = some .null ∧ h' = h) ∨ (tOp ks n p = true ∧ ∃ o, v = some (.ref o) ∧ h o = none ∧ h' o = some (oOp (ks p) (ns p)) ∧ h' P = some (oPa T S (nI (p + 1))) ∧ xKeep [P] h h')) := by
  refine xM_of false (by decide) (fun h => nomatch h) (Nat.le_of_ble_eq_true rfl) (fun K C => ?_)
  show K 1 2 h 0 [(0, .ref P)] []
  have kp : xKeep [P] h h := xKeep.rf
  obtain ⟨fT, fkr, fnr, hkn, hn60⟩ := pT
  refine x_aload_n C d_Pa_takeOperand_0 rfl rfl ?_
  refine x_get C k_Pa f_Pa_18 d_Pa_takeOperand_1 fP (by rfl) ?_
  refine x_aload_n C d_Pa_takeOperand_4 rfl rfl ?_
  refine x_get C k_Pa f_Pa_52 d_Pa_takeOperand_5 fP (by rfl) ?_
  refine x_iconst (v := 2) C d_Pa_takeOperand_8 (by decide) ?_
  refine x_callV C l_Pa_75 v_To_isKind d_Pa_takeOperand_9 (m_To_isKind ⟨fT, fkr, fnr, hkn, hn60⟩ (nI p) 2) fT rfl (by rfl) (by rfl) (by decide) (by decide) (Nat.le_of_ble_eq_true rfl) ?_
  rintro v h' ⟨rfl, rfl⟩
  rw [kd_eq (by omega) (by omega)]
  refine x_if_ne (tgt := 32) C d_Pa_takeOperand_12 rfl (fun q12 => ?_) (fun q12 => ?_)
  · skip
    replace q12 := bI_t q12
    have hlt := (tK_iff.mp q12).1
    refine x_aload_n C d_Pa_takeOperand_32 rfl rfl ?_
    refine x_dup C d_Pa_takeOperand_33 rfl ?_
    refine x_get C k_Pa f_Pa_52 d_Pa_takeOperand_34 fP (by rfl) ?_
    refine x_iconst (v := 1) C d_Pa_takeOperand_37 (by decide) ?_
    refine x_iadd C d_Pa_takeOperand_38 ?_
    refine x_put (fs' := [_, _, _]) C k_Pa f_Pa_52 d_Pa_takeOperand_39 fP (by rfl) (by rfl) (by rfl) (Nat.le_of_ble_eq_true rfl) (by rfl) (fun h1 u1 => ?_)
    have fT := xUp_ne u1 fT (by first | assumption | exact Ne.symm (by assumption) | exact x_ne fT fP (by simp))
    have fkr := xUp_ne u1 fkr (by first | assumption | exact Ne.symm (by assumption) | exact x_ne fkr fP (by simp))
    have fnr := xUp_ne u1 fnr (by first | assumption | exact Ne.symm (by assumption) | exact x_ne fnr fP (by simp))
    have fP := xUp_at u1
    have kp := kp.up u1 (by simp)
    refine x_new (fs := [.int 0, .int 0]) C k_Op ⟨c_Pa_122, n_Op.1, n_Op.2⟩ d_Pa_takeOperand_42 (by decide +revert) (fun o h2 n2 u2 => ?_)
    have x2_P := x_nn fP n2
    have x2_T := x_nn fT n2
    have x2_kr := x_nn fkr n2
    have x2_nr := x_nn fnr n2
    have fP := xUp_new u2 n2 fP
    have fT := xUp_new u2 n2 fT
    have fkr := xUp_new u2 n2 fkr
    have fnr := xUp_new u2 n2 fnr
    have z_o := kp.isn n2 (by simp only [List.mem_cons, List.not_mem_nil, or_false, not_or]; exact Ne.symm x2_P)
    have kp := kp.upN u2 z_o
    have f_o := xUp_at u2
    refine x_dup C d_Pa_takeOperand_45 rfl ?_
    refine x_aload_n C d_Pa_takeOperand_46 rfl rfl ?_
    refine x_get C k_Pa f_Pa_18 d_Pa_takeOperand_47 fP (by rfl) ?_
    refine x_get C k_To f_Pa_124 d_Pa_takeOperand_50 fT (by rfl) ?_
    refine x_aload_n C d_Pa_takeOperand_53 rfl rfl ?_
    refine x_get C k_Pa f_Pa_52 d_Pa_takeOperand_54 fP (by rfl) ?_
    refine x_iconst (v := 1) C d_Pa_takeOperand_57 (by decide) ?_
    refine x_isub C d_Pa_takeOperand_58 ?_
    rw [nI_1, nI_pred]
    refine x_iald C d_Pa_takeOperand_59 fkr (vp_in_nI (by omega) (by decide)) ?_
    rw [nI_clamp (by omega)]
    refine x_aload_n C d_Pa_takeOperand_60 rfl rfl ?_
    refine x_get C k_Pa f_Pa_18 d_Pa_takeOperand_61 fP (by rfl) ?_
    refine x_get C k_To f_Pa_79 d_Pa_takeOperand_64 fT (by rfl) ?_
    refine x_aload_n C d_Pa_takeOperand_67 rfl rfl ?_
    refine x_get C k_Pa f_Pa_52 d_Pa_takeOperand_68 fP (by rfl) ?_
    refine x_iconst (v := 1) C d_Pa_takeOperand_71 (by decide) ?_
    refine x_isub C d_Pa_takeOperand_72 ?_
    rw [nI_1, nI_pred]
    refine x_iald C d_Pa_takeOperand_73 fnr (vp_in_nI (by omega) (by decide)) ?_
    rw [nI_clamp (by omega)]
    refine x_callI C l_Pa_127 v_Op_init d_Pa_takeOperand_74 (m_Op_init f_o (ks p) (ns p)) rfl (by rfl) (by rfl) (by decide) (by decide) (Nat.le_of_ble_eq_true rfl) ?_
    rintro v3 h3 ⟨rfl, f_o', kp3⟩
    have fP := kp3.get fP (nm_c (by first | assumption | exact Ne.symm (by assumption) | exact x_ne fP f_o (by simp)) nm_n)
    have fT := kp3.get fT (nm_c (by first | assumption | exact Ne.symm (by assumption) | exact x_ne fT f_o (by simp)) nm_n)
    have fkr := kp3.get fkr (nm_c (by first | assumption | exact Ne.symm (by assumption) | exact x_ne fkr f_o (by simp)) nm_n)
    have fnr := kp3.get fnr (nm_c (by first | assumption | exact Ne.symm (by assumption) | exact x_ne fnr f_o (by simp)) nm_n)
    have kp := kp.call kp3 (kc_c (Or.inr z_o) kc_n)
    have f_o := f_o'
    refine x_aret C d_Pa_takeOperand_77 ?_
    refine Or.inr ⟨?_, o, rfl, z_o, f_o, by rw [fP, nI_1], kp⟩
    unfold tOp
    first | (rw [q12]; rfl) | (rw [q27]; exact Bool.or_true _)
  · skip
    replace q12 := bI_f q12
    refine x_aload_n C d_Pa_takeOperand_15 rfl rfl ?_
    refine x_get C k_Pa f_Pa_18 d_Pa_takeOperand_16 fP (by rfl) ?_
    refine x_aload_n C d_Pa_takeOperand_19 rfl rfl ?_
    refine x_get C k_Pa f_Pa_52 d_Pa_takeOperand_20 fP (by rfl) ?_
    refine x_iconst (v := 3) C d_Pa_takeOperand_23 (by decide) ?_
    refine x_callV C l_Pa_75 v_To_isKind d_Pa_takeOperand_24 (m_To_isKind ⟨fT, fkr, fnr, hkn, hn60⟩ (nI p) 3) fT rfl (by rfl) (by rfl) (by decide) (by decide) (Nat.le_of_ble_eq_true rfl) ?_
    rintro v h' ⟨rfl, rfl⟩
    rw [kd_eq (by omega) (by omega)]
    refine x_if_ne (tgt := 32) C d_Pa_takeOperand_27 rfl (fun q27 => ?_) (fun q27 => ?_)
    · skip
      replace q27 := bI_t q27
      have hlt := (tK_iff.mp q27).1
      refine x_aload_n C d_Pa_takeOperand_32 rfl rfl ?_
      refine x_dup C d_Pa_takeOperand_33 rfl ?_
      refine x_get C k_Pa f_Pa_52 d_Pa_takeOperand_34 fP (by rfl) ?_
      refine x_iconst (v := 1) C d_Pa_takeOperand_37 (by decide) ?_
      refine x_iadd C d_Pa_takeOperand_38 ?_
      refine x_put (fs' := [_, _, _]) C k_Pa f_Pa_52 d_Pa_takeOperand_39 fP (by rfl) (by rfl) (by rfl) (Nat.le_of_ble_eq_true rfl) (by rfl) (fun h4 u4 => ?_)
      have fT := xUp_ne u4 fT (by first | assumption | exact Ne.symm (by assumption) | exact x_ne fT fP (by simp))
      have fkr := xUp_ne u4 fkr (by first | assumption | exact Ne.symm (by assumption) | exact x_ne fkr fP (by simp))
      have fnr := xUp_ne u4 fnr (by first | assumption | exact Ne.symm (by assumption) | exact x_ne fnr fP (by simp))
      have fP := xUp_at u4
      have kp := kp.up u4 (by simp)
      refine x_new (fs := [.int 0, .int 0]) C k_Op ⟨c_Pa_122, n_Op.1, n_Op.2⟩ d_Pa_takeOperand_42 (by decide +revert) (fun o h5 n5 u5 => ?_)
      have x5_P := x_nn fP n5
      have x5_T := x_nn fT n5
      have x5_kr := x_nn fkr n5
      have x5_nr := x_nn fnr n5
      have fP := xUp_new u5 n5 fP
      have fT := xUp_new u5 n5 fT
      have fkr := xUp_new u5 n5 fkr
      have fnr := xUp_new u5 n5 fnr
      have z_o := kp.isn n5 (by simp only [List.mem_cons, List.not_mem_nil, or_false, not_or]; exact Ne.symm x5_P)
      have kp := kp.upN u5 z_o
      have f_o := xUp_at u5
      refine x_dup C d_Pa_takeOperand_45 rfl ?_
      refine x_aload_n C d_Pa_takeOperand_46 rfl rfl ?_
      refine x_get C k_Pa f_Pa_18 d_Pa_takeOperand_47 fP (by rfl) ?_
      refine x_get C k_To f_Pa_124 d_Pa_takeOperand_50 fT (by rfl) ?_
      refine x_aload_n C d_Pa_takeOperand_53 rfl rfl ?_
      refine x_get C k_Pa f_Pa_52 d_Pa_takeOperand_54 fP (by rfl) ?_
      refine x_iconst (v := 1) C d_Pa_takeOperand_57 (by decide) ?_
      refine x_isub C d_Pa_takeOperand_58 ?_
      rw [nI_1, nI_pred]
      refine x_iald C d_Pa_takeOperand_59 fkr (vp_in_nI (by omega) (by decide)) ?_
      rw [nI_clamp (by omega)]
      refine x_aload_n C d_Pa_takeOperand_60 rfl rfl ?_
      refine x_get C k_Pa f_Pa_18 d_Pa_takeOperand_61 fP (by rfl) ?_
      refine x_get C k_To f_Pa_79 d_Pa_takeOperand_64 fT (by rfl) ?_
      refine x_aload_n C d_Pa_takeOperand_67 rfl rfl ?_
      refine x_get C k_Pa f_Pa_52 d_Pa_takeOperand_68 fP (by rfl) ?_
      refine x_iconst (v := 1) C d_Pa_takeOperand_71 (by decide) ?_
      refine x_isub C d_Pa_takeOperand_72 ?_
      rw [nI_1, nI_pred]
      refine x_iald C d_Pa_takeOperand_73 fnr (vp_in_nI (by omega) (by decide)) ?_
      rw [nI_clamp (by omega)]
      refine x_callI C l_Pa_127 v_Op_init d_Pa_takeOperand_74 (m_Op_init f_o (ks p) (ns p)) rfl (by rfl) (by rfl) (by decide) (by decide) (Nat.le_of_ble_eq_true rfl) ?_
      rintro v6 h6 ⟨rfl, f_o', kp6⟩
      have fP := kp6.get fP (nm_c (by first | assumption | exact Ne.symm (by assumption) | exact x_ne fP f_o (by simp)) nm_n)
      have fT := kp6.get fT (nm_c (by first | assumption | exact Ne.symm (by assumption) | exact x_ne fT f_o (by simp)) nm_n)
      have fkr := kp6.get fkr (nm_c (by first | assumption | exact Ne.symm (by assumption) | exact x_ne fkr f_o (by simp)) nm_n)
      have fnr := kp6.get fnr (nm_c (by first | assumption | exact Ne.symm (by assumption) | exact x_ne fnr f_o (by simp)) nm_n)
      have kp := kp.call kp6 (kc_c (Or.inr z_o) kc_n)
      have f_o := f_o'
      refine x_aret C d_Pa_takeOperand_77 ?_
      refine Or.inr ⟨?_, o, rfl, z_o, f_o, by rw [fP, nI_1], kp⟩
      unfold tOp
      first | (rw [q12]; rfl) | (rw [q27]; exact Bool.or_true _)
    · skip
      replace q27 := bI_f q27
      refine x_null C d_Pa_takeOperand_30 ?_
      refine x_aretN C d_Pa_takeOperand_31 ?_
      exact Or.inl ⟨by unfold tOp; rw [q12, q27]; rfl, rfl, rfl⟩
set_option maxRecDepth 20000 in
set_option maxHeartbeats 1000000 in
theorem m_Pa_takeCondition {V : xV} {h : xH} {P T kr nr S : Nat} {ks ns : Nat → Int32} {n p : Nat} (fP : h P = some (oPa T S (nI p))) (pT : pTo V h T kr nr ks ns n) (hp : p ≤ 60) : xM V y_Pa_takeCondition b_Pa_takeCondition 4 (some (.object "CursorBase$Condition")) 3 [.ref P] h 3 7 (fun v h' => (tCond ks ns n p = true ∧ ∃ q, v = some (.ref q) ∧ pCd h' q (cdAt ks ns p) ∧ h' P = some (oPa T S (nI (p + 3))) ∧ xKeep [P] h h') ∨ (tCond ks ns n p = false ∧ v = some .null ∧ xKeep [P] h h')) := by
  refine xM_of false (by decide) (fun h => nomatch h) (Nat.le_of_ble_eq_true rfl) (fun K C => ?_)
  show K 3 7 h 0 [(0, .ref P)] []
  have kp : xKeep [P] h h := xKeep.rf
  obtain ⟨fT, fkr, fnr, hkn, hn60⟩ := pT
  refine x_aload_n C d_Pa_takeCondition_0 rfl rfl ?_
  refine x_callV C l_Pa_113 v_Pa_takeOperand d_Pa_takeCondition_1 (m_Pa_takeOperand (p := p) fP ⟨fT, fkr, fnr, hkn, hn60⟩ hp) fP rfl (by rfl) (by rfl) (by decide) (by decide) (Nat.le_of_ble_eq_true rfl) ?_
  rintro v1 h1 (⟨ho1, rfl, rfl⟩ | ⟨ho1, a, rfl, -, f_a, fP', kp1⟩)
  · skip
    refine x_astore_nN (lv' := [(1, _), (0, _)]) C d_Pa_takeCondition_4 rfl (by decide) (by rfl) ?_
    refine x_aload_n C d_Pa_takeCondition_5 rfl rfl ?_
    refine x_bipush (v := 10) C d_Pa_takeCondition_6 (by decide) ?_
    refine x_bipush (v := 12) C d_Pa_takeCondition_8 (by decide) ?_
    refine x_callV C l_Pa_22 v_Pa_takeWordBetween d_Pa_takeCondition_10 (m_Pa_takeWordBetween (p := p) fP ⟨fT, fkr, fnr, hkn, hn60⟩ hp 10 12) fP rfl (by rfl) (by rfl) (by decide) (by decide) (Nat.le_of_ble_eq_true rfl) ?_
    rintro v2 h2 ⟨rfl, fP', kp2⟩
    have fT := kp2.get fT (nm_c (by first | assumption | exact Ne.symm (by assumption) | exact x_ne fT fP (by simp)) nm_n)
    have fkr := kp2.get fkr (nm_c (by first | assumption | exact Ne.symm (by assumption) | exact x_ne fkr fP (by simp)) nm_n)
    have fnr := kp2.get fnr (nm_c (by first | assumption | exact Ne.symm (by assumption) | exact x_ne fnr fP (by simp)) nm_n)
    have kp := kp.call kp2 (kc_c (Or.inl (by simp)) kc_n)
    have fP := fP'
    refine x_istore_n (lv' := [(2, _), (1, _), (0, _)]) C d_Pa_takeCondition_13 rfl (by decide) (by rfl) ?_
    refine x_aload_n C d_Pa_takeCondition_14 rfl rfl ?_
    refine x_callV C l_Pa_113 v_Pa_takeOperand d_Pa_takeCondition_15 (m_Pa_takeOperand (p := _) fP ⟨fT, fkr, fnr, hkn, hn60⟩ (tW_le hp hn60)) fP rfl (by rfl) (by rfl) (by decide) (by decide) (Nat.le_of_ble_eq_true rfl) ?_
    rintro v3 h3 (⟨ho2, rfl, rfl⟩ | ⟨ho2, b, rfl, -, f_b, fP', kp3⟩)
    · skip
      refine x_astore_nN (lv' := [(3, _), (2, _), (1, _), (0, _)]) C d_Pa_takeCondition_18 rfl (by decide) (by rfl) ?_
      refine x_aload_nN C d_Pa_takeCondition_19 rfl rfl ?_
      refine x_ifnullN (tgt := 32) C d_Pa_takeCondition_20 rfl ?_
      refine x_null C d_Pa_takeCondition_32 ?_
      refine x_aretN C d_Pa_takeCondition_33 ?_
      refine Or.inr ⟨Bool.eq_false_iff.mpr (fun z => ?_), rfl, kp⟩
      obtain ⟨z1, z2, z3⟩ := tCond_iff.mp z
      first | (rw [z1] at ho1; cases ho1; done) | exact hw z2 | (rw [if_pos hw, z3] at ho2; cases ho2)
    · skip
      have fT := kp3.get fT (nm_c (by first | assumption | exact Ne.symm (by assumption) | exact x_ne fT fP (by simp)) nm_n)
      have fkr := kp3.get fkr (nm_c (by first | assumption | exact Ne.symm (by assumption) | exact x_ne fkr fP (by simp)) nm_n)
      have fnr := kp3.get fnr (nm_c (by first | assumption | exact Ne.symm (by assumption) | exact x_ne fnr fP (by simp)) nm_n)
      have kp := kp.call kp3 (kc_c (Or.inl (by simp)) kc_n)
      have fP := fP'
      have hl2 := tOp_lt ho2
      refine x_astore_n (lv' := [(3, _), (2, _), (1, _), (0, _)]) C d_Pa_takeCondition_18 rfl (by decide) (by rfl) ?_
      refine x_aload_nN C d_Pa_takeCondition_19 rfl rfl ?_
      refine x_ifnullN (tgt := 32) C d_Pa_takeCondition_20 rfl ?_
      refine x_null C d_Pa_takeCondition_32 ?_
      refine x_aretN C d_Pa_takeCondition_33 ?_
      refine Or.inr ⟨Bool.eq_false_iff.mpr (fun z => ?_), rfl, kp⟩
      obtain ⟨z1, z2, z3⟩ := tCond_iff.mp z
      first | (rw [z1] at ho1; cases ho1; done) | exact hw z2 | (rw [if_pos hw, z3] at ho2; cases ho2)
  · skip
    have fT := kp1.get fT (nm_c (by first | assumption | exact Ne.symm (by assumption) | exact x_ne fT fP (by simp)) nm_n)
    have fkr := kp1.get fkr (nm_c (by first | assumption | exact Ne.symm (by assumption) | exact x_ne fkr fP (by simp)) nm_n)
    have fnr := kp1.get fnr (nm_c (by first | assumption | exact Ne.symm (by assumption) | exact x_ne fnr fP (by simp)) nm_n)
    have kp := kp.call kp1 (kc_c (Or.inl (by simp)) kc_n)
    have fP := fP'
    have hl1 := tOp_lt ho1
    refine x_astore_n (lv' := [(1, _), (0, _)]) C d_Pa_takeCondition_4 rfl (by decide) (by rfl) ?_
    refine x_aload_n C d_Pa_takeCondition_5 rfl rfl ?_
    refine x_bipush (v := 10) C d_Pa_takeCondition_6 (by decide) ?_
    refine x_bipush (v := 12) C d_Pa_takeCondition_8 (by decide) ?_
    refine x_callV C l_Pa_22 v_Pa_takeWordBetween d_Pa_takeCondition_10 (m_Pa_takeWordBetween (p := p + 1) fP ⟨fT, fkr, fnr, hkn, hn60⟩ (by omega) 10 12) fP rfl (by rfl) (by rfl) (by decide) (by decide) (Nat.le_of_ble_eq_true rfl) ?_
    rintro v4 h4 ⟨rfl, fP', kp4⟩
    have fT := kp4.get fT (nm_c (by first | assumption | exact Ne.symm (by assumption) | exact x_ne fT fP (by simp)) nm_n)
    have fkr := kp4.get fkr (nm_c (by first | assumption | exact Ne.symm (by assumption) | exact x_ne fkr fP (by simp)) nm_n)
    have fnr := kp4.get fnr (nm_c (by first | assumption | exact Ne.symm (by assumption) | exact x_ne fnr fP (by simp)) nm_n)
    have f_a := kp4.get f_a (nm_c (by first | assumption | exact Ne.symm (by assumption) | exact x_ne f_a fP (by simp)) nm_n)
    have kp := kp.call kp4 (kc_c (Or.inl (by simp)) kc_n)
    have fP := fP'
    refine x_istore_n (lv' := [(2, _), (1, _), (0, _)]) C d_Pa_takeCondition_13 rfl (by decide) (by rfl) ?_
    refine x_aload_n C d_Pa_takeCondition_14 rfl rfl ?_
    refine x_callV C l_Pa_113 v_Pa_takeOperand d_Pa_takeCondition_15 (m_Pa_takeOperand (p := (if tW ks ns n (p + 1) 10 12 = true then p + 1 + 1 else p + 1)) fP ⟨fT, fkr, fnr, hkn, hn60⟩ (tW_le (by omega) hn60)) fP rfl (by rfl) (by rfl) (by decide) (by decide) (Nat.le_of_ble_eq_true rfl) ?_
    rintro v5 h5 (⟨ho2, rfl, rfl⟩ | ⟨ho2, b, rfl, -, f_b, fP', kp5⟩)
    · skip
      refine x_astore_nN (lv' := [(3, _), (2, _), (1, _), (0, _)]) C d_Pa_takeCondition_18 rfl (by decide) (by rfl) ?_
      refine x_aload_n C d_Pa_takeCondition_19 rfl rfl ?_
      refine x_ifnull C d_Pa_takeCondition_20 ?_
      refine x_iload_n C d_Pa_takeCondition_23 rfl rfl ?_
      refine x_iconst (v := -1) C d_Pa_takeCondition_24 (by decide) ?_
      refine x_icmp_eq (tgt := 32) C d_Pa_takeCondition_25 rfl (fun q25 => ?_) (fun q25 => ?_)
      · skip
        have hw : ¬ tW ks ns n (p + 1) 10 12 = true := fun z => by
          rw [if_pos z] at q25
          have := tW_iff.mp z
          exact this.2.2.1 (by rw [q25]; decide)
        refine x_null C d_Pa_takeCondition_32 ?_
        refine x_aretN C d_Pa_takeCondition_33 ?_
        refine Or.inr ⟨Bool.eq_false_iff.mpr (fun z => ?_), rfl, kp⟩
        obtain ⟨z1, z2, z3⟩ := tCond_iff.mp z
        first | (rw [z1] at ho1; cases ho1; done) | exact hw z2 | (rw [if_pos hw, z3] at ho2; cases ho2)
      · skip
        have hw : tW ks ns n (p + 1) 10 12 = true := by
          by_cases z : tW ks ns n (p + 1) 10 12 = true
          · exact z
          · rw [if_neg z] at q25; exact absurd rfl q25
        refine x_aload_nN C d_Pa_takeCondition_28 rfl rfl ?_
        refine x_ifnonnullN C d_Pa_takeCondition_29 ?_
        refine x_null C d_Pa_takeCondition_32 ?_
        refine x_aretN C d_Pa_takeCondition_33 ?_
        refine Or.inr ⟨Bool.eq_false_iff.mpr (fun z => ?_), rfl, kp⟩
        obtain ⟨z1, z2, z3⟩ := tCond_iff.mp z
        first | (rw [z1] at ho1; cases ho1; done) | exact hw z2 | (rw [if_pos hw, z3] at ho2; cases ho2)
    · skip
      have fT := kp5.get fT (nm_c (by first | assumption | exact Ne.symm (by assumption) | exact x_ne fT fP (by simp)) nm_n)
      have fkr := kp5.get fkr (nm_c (by first | assumption | exact Ne.symm (by assumption) | exact x_ne fkr fP (by simp)) nm_n)
      have fnr := kp5.get fnr (nm_c (by first | assumption | exact Ne.symm (by assumption) | exact x_ne fnr fP (by simp)) nm_n)
      have f_a := kp5.get f_a (nm_c (by first | assumption | exact Ne.symm (by assumption) | exact x_ne f_a fP (by simp)) nm_n)
      have kp := kp.call kp5 (kc_c (Or.inl (by simp)) kc_n)
      have fP := fP'
      have hl2 := tOp_lt ho2
      refine x_astore_n (lv' := [(3, _), (2, _), (1, _), (0, _)]) C d_Pa_takeCondition_18 rfl (by decide) (by rfl) ?_
      refine x_aload_n C d_Pa_takeCondition_19 rfl rfl ?_
      refine x_ifnull C d_Pa_takeCondition_20 ?_
      refine x_iload_n C d_Pa_takeCondition_23 rfl rfl ?_
      refine x_iconst (v := -1) C d_Pa_takeCondition_24 (by decide) ?_
      refine x_icmp_eq (tgt := 32) C d_Pa_takeCondition_25 rfl (fun q25 => ?_) (fun q25 => ?_)
      · skip
        have hw : ¬ tW ks ns n (p + 1) 10 12 = true := fun z => by
          rw [if_pos z] at q25
          have := tW_iff.mp z
          exact this.2.2.1 (by rw [q25]; decide)
        refine x_null C d_Pa_takeCondition_32 ?_
        refine x_aretN C d_Pa_takeCondition_33 ?_
        refine Or.inr ⟨Bool.eq_false_iff.mpr (fun z => ?_), rfl, kp⟩
        obtain ⟨z1, z2, z3⟩ := tCond_iff.mp z
        first | (rw [z1] at ho1; cases ho1; done) | exact hw z2 | (rw [if_pos hw, z3] at ho2; cases ho2)
      · skip
        have hw : tW ks ns n (p + 1) 10 12 = true := by
          by_cases z : tW ks ns n (p + 1) 10 12 = true
          · exact z
          · rw [if_neg z] at q25; exact absurd rfl q25
        refine x_aload_n C d_Pa_takeCondition_28 rfl rfl ?_
        refine x_ifnonnull (tgt := 34) C d_Pa_takeCondition_29 rfl ?_
        refine x_new (fs := [.null, .int 0, .null]) C k_Cn ⟨c_Pa_117, n_Cn.1, n_Cn.2⟩ d_Pa_takeCondition_34 (by decide +revert) (fun q h6 n6 u6 => ?_)
        have x6_P := x_nn fP n6
        have x6_T := x_nn fT n6
        have x6_kr := x_nn fkr n6
        have x6_nr := x_nn fnr n6
        have x6_a := x_nn f_a n6
        have x6_b := x_nn f_b n6
        have fP := xUp_new u6 n6 fP
        have fT := xUp_new u6 n6 fT
        have fkr := xUp_new u6 n6 fkr
        have fnr := xUp_new u6 n6 fnr
        have f_a := xUp_new u6 n6 f_a
        have f_b := xUp_new u6 n6 f_b
        have z_q := kp.isn n6 (by simp only [List.mem_cons, List.not_mem_nil, or_false, not_or]; exact Ne.symm x6_P)
        have kp := kp.upN u6 z_q
        have f_q := xUp_at u6
        refine x_dup C d_Pa_takeCondition_37 rfl ?_
        refine x_aload_n C d_Pa_takeCondition_38 rfl rfl ?_
        refine x_iload_n C d_Pa_takeCondition_39 rfl rfl ?_
        refine x_aload_n C d_Pa_takeCondition_40 rfl rfl ?_
        refine x_callI C l_Pa_119 v_Cn_init d_Pa_takeCondition_41 (m_Cn_init f_q a _ b) rfl (by rfl) (by rfl) (by decide) (by decide) (Nat.le_of_ble_eq_true rfl) ?_
        rintro v7 h7 ⟨rfl, f_q', kp7⟩
        have fP := kp7.get fP (nm_c (by first | assumption | exact Ne.symm (by assumption) | exact x_ne fP f_q (by simp)) nm_n)
        have fT := kp7.get fT (nm_c (by first | assumption | exact Ne.symm (by assumption) | exact x_ne fT f_q (by simp)) nm_n)
        have fkr := kp7.get fkr (nm_c (by first | assumption | exact Ne.symm (by assumption) | exact x_ne fkr f_q (by simp)) nm_n)
        have fnr := kp7.get fnr (nm_c (by first | assumption | exact Ne.symm (by assumption) | exact x_ne fnr f_q (by simp)) nm_n)
        have f_a := kp7.get f_a (nm_c (by first | assumption | exact Ne.symm (by assumption) | exact x_ne f_a f_q (by simp)) nm_n)
        have f_b := kp7.get f_b (nm_c (by first | assumption | exact Ne.symm (by assumption) | exact x_ne f_b f_q (by simp)) nm_n)
        have kp := kp.call kp7 (kc_c (Or.inr z_q) kc_n)
        have f_q := f_q'
        refine x_aret C d_Pa_takeCondition_44 ?_
        rw [if_pos hw] at ho2 f_b fP f_q
        exact Or.inl ⟨tCond_iff.mpr ⟨ho1, hw, ho2⟩, q, rfl, ⟨a, b, f_q, f_a, f_b⟩, fP, kp⟩
set_option maxRecDepth 20000 in
set_option maxHeartbeats 1000000 in
theorem m_Pa_takeConditions {V : xV} {h : xH} {P T kr nr S : Nat} {ks ns : Nat → Int32} {n p : Nat} (fP : h P = some (oPa T S (nI p))) (pT : pTo V h T kr nr ks ns n) (hp : p ≤ 60) {nb pk cd : Nat} {vb ls fi se fa nc np : Int32} {co : Nat → Option Nat} (fS : h S = some (oSt vb ls fi se fa nc nb np pk 0 cd)) (fcd : h cd = some (xR V 3 8 co)) {tc : Option Nat} (htc : tConds ks ns n 8 8 p = tc) : xM V y_Pa_takeConditions b_Pa_takeConditions 4 (some .boolean) 4 [.ref P] h 24 56 (fun v h' => (∃ k co', tc = some k ∧ v = some (.int 1) ∧ h' P = some (oPa T S (nI (p + 4 * k))) ∧ h' S = some (oSt vb ls fi se fa nc nb np pk (nI k) cd) ∧ h' cd = some (xR V 3 8 co') ∧ pCds h' co' k (fun j => cdAt ks ns (p + 4 * j + 1)) ∧ k ≤ 8 ∧ p + 4 * k ≤ 60 ∧ xKeep [P, S, cd] h h') ∨ (tc = none ∧ v = some (.int 0) ∧ xKeep [P, S, cd] h h')) := by
  refine xM_of false (by decide) (fun h => nomatch h) (Nat.le_of_ble_eq_true rfl) (fun K C => ?_)
  show K 24 56 h 0 [(0, .ref P)] []
  have kp : xKeep [P, S, cd] h h := xKeep.rf
  obtain ⟨fT, fkr, fnr, hkn, hn60⟩ := pT
  have loop : ∀ m : Nat, ∀ (i a b : Nat) (lk : Int32) (h1 : xH) (co1 : Nat → Option Nat), 8 - i < m → 24 - 3 * i ≤ a → 56 - 7 * i ≤ b → i ≤ 8 → ¬ lk = -1 → p + 4 * i ≤ 60 → tc = (tConds ks ns n (8 - i) lk (p + 4 * i)).map (· + i) → h1 P = some (oPa T S (nI (p + 4 * i))) → pTo V h1 T kr nr ks ns n → h1 S = some (oSt vb ls fi se fa nc nb np pk (nI i) cd) → h1 cd = some (xR V 3 8 co1) → pCds h1 co1 i (fun j => cdAt ks ns (p + 4 * j + 1)) → xKeep [P, S, cd] h h1 → K a b h1 5 [(2, .int (nI i)), (1, .int lk), (0, .ref P)] [] := by
    intro m
    induction m with
    | zero => intro i a b lk h1 co1 hm ha hb hi hlk hpi hT fP pT fS fcd pC kp; omega
    | succ m ih =>
      intro i a b lk h1 co1 hm ha hb hi hlk hpi hT fP pT fS fcd pC kp
      obtain ⟨fT, fkr, fnr, hkn, hn60⟩ := pT
      have fP0 := fP
      refine x_iload_n C d_Pa_takeConditions_5 rfl rfl ?_
      refine x_bipush (v := 8) C d_Pa_takeConditions_6 (by decide) ?_
      refine x_icmp_ge (tgt := 47) C d_Pa_takeConditions_8 rfl (fun q8 => ?_) (fun q8 => ?_)
      · skip
        have hi8 := nge_of (b := 8) q8 (by decide)
        refine x_iconst (v := 1) C d_Pa_takeConditions_47 (by decide) ?_
        refine x_zret C d_Pa_takeConditions_48 (by rfl) ?_
        have hk : tc = some i := by
          first | (rw [hT]; simp; done) | (have h8 : i = 8 := (by omega); subst h8; rw [hT]; rfl)
        exact Or.inl ⟨i, co1, hk, rfl, fP, fS, fcd, pC, hi, hpi, kp⟩
      · skip
        have hi8 := nlt_of (b := 8) q8 (by decide) (by omega)
        obtain ⟨m8, hm8⟩ : ∃ m8, 8 - i = m8 + 1 := ⟨7 - i, by omega⟩
        rw [hm8] at hT
        unfold tConds at hT
        refine x_aload_n C d_Pa_takeConditions_11 rfl rfl ?_
        refine x_iload_n C d_Pa_takeConditions_12 rfl rfl ?_
        refine x_callV C l_Pa_60 v_Pa_takeWord d_Pa_takeConditions_13 (m_Pa_takeWord (p := p + 4 * i) fP ⟨fT, fkr, fnr, hkn, hn60⟩ hpi lk hlk) fP rfl (by rfl) (by rfl) (by decide) (by decide) (Nat.le_of_ble_eq_true rfl) ?_
        rintro v1 h1 ⟨rfl, fP', kp1⟩
        have fT := kp1.get fT (nm_c (by first | assumption | exact Ne.symm (by assumption) | exact x_ne fT fP (by simp)) nm_n)
        have fkr := kp1.get fkr (nm_c (by first | assumption | exact Ne.symm (by assumption) | exact x_ne fkr fP (by simp)) nm_n)
        have fnr := kp1.get fnr (nm_c (by first | assumption | exact Ne.symm (by assumption) | exact x_ne fnr fP (by simp)) nm_n)
        have fS := kp1.get fS (nm_c (by first | assumption | exact Ne.symm (by assumption) | exact x_ne fS fP (by simp)) nm_n)
        have fcd := kp1.get fcd (nm_c (by first | assumption | exact Ne.symm (by assumption) | exact x_ne fcd fP (by simp)) nm_n)
        have kp := kp.call kp1 (kc_c (Or.inl (by simp)) kc_n)
        have fP := fP'
        have pC := pC.keep (kp1.ops (no_c fP0 rfl no_n))
        have fP0 := fP
        refine x_if_eq (tgt := 47) C d_Pa_takeConditions_16 rfl (fun q16 => ?_) (fun q16 => ?_)
        · skip
          replace q16 := bI_f q16
          have q16' : ¬ tW ks ns n (p + 4 * i) lk lk = true := by rw [q16]; decide
          rw [if_neg q16'] at fP hT
          refine x_iconst (v := 1) C d_Pa_takeConditions_47 (by decide) ?_
          refine x_zret C d_Pa_takeConditions_48 (by rfl) ?_
          have hk : tc = some i := by
            first | (rw [hT]; simp; done) | (have h8 : i = 8 := (by omega); subst h8; rw [hT]; rfl)
          exact Or.inl ⟨i, co1, hk, rfl, fP, fS, fcd, pC, hi, hpi, kp⟩
        · skip
          replace q16 := bI_t q16
          rw [if_pos q16] at fP hT
          have hw := tW_iff.mp q16
          obtain ⟨a9, rfl⟩ : ∃ a9, a = a9 + 3 := ⟨a - 3, by omega⟩
          obtain ⟨b9, rfl⟩ : ∃ b9, b = b9 + 7 := ⟨b - 7, by omega⟩
          refine x_aload_n C d_Pa_takeConditions_19 rfl rfl ?_
          refine x_callV C l_Pa_105 v_Pa_takeCondition d_Pa_takeConditions_20 (m_Pa_takeCondition (p := p + 4 * i + 1) fP ⟨fT, fkr, fnr, hkn, hn60⟩ (by omega)) fP rfl (by rfl) (by rfl) (by decide) (by decide) (Nat.le_of_ble_eq_true rfl) ?_
          rintro v2 h2 (⟨hc, q, rfl, pq, fP', kp2⟩ | ⟨hc, rfl, kp2⟩)
          · skip
            have fT := kp2.get fT (nm_c (by first | assumption | exact Ne.symm (by assumption) | exact x_ne fT fP (by simp)) nm_n)
            have fkr := kp2.get fkr (nm_c (by first | assumption | exact Ne.symm (by assumption) | exact x_ne fkr fP (by simp)) nm_n)
            have fnr := kp2.get fnr (nm_c (by first | assumption | exact Ne.symm (by assumption) | exact x_ne fnr fP (by simp)) nm_n)
            have fS := kp2.get fS (nm_c (by first | assumption | exact Ne.symm (by assumption) | exact x_ne fS fP (by simp)) nm_n)
            have fcd := kp2.get fcd (nm_c (by first | assumption | exact Ne.symm (by assumption) | exact x_ne fcd fP (by simp)) nm_n)
            have kp := kp.call kp2 (kc_c (Or.inl (by simp)) kc_n)
            have fP := fP'
            have pC := pC.keep (kp2.ops (no_c fP0 rfl no_n))
            have hc3 := tCond_iff.mp hc
            have hl3 := tOp_lt hc3.2.2
            have pq0 := pq
            obtain ⟨_, _, fq, -, -⟩ := pq
            rw [if_pos hc] at hT
            refine x_astore_n (lv' := [(3, _), (2, _), (1, _), (0, _)]) C d_Pa_takeConditions_23 rfl (by decide) (by rfl) ?_
            refine x_aload_n C d_Pa_takeConditions_24 rfl rfl ?_
            refine x_ifnonnull (tgt := 30) C d_Pa_takeConditions_25 rfl ?_
            refine x_aload_n C d_Pa_takeConditions_30 rfl rfl ?_
            refine x_get C k_Pa f_Pa_12 d_Pa_takeConditions_31 fP (by rfl) ?_
            refine x_aload_n C d_Pa_takeConditions_34 rfl rfl ?_
            refine x_callV C l_Pa_109 v_St_addCondition d_Pa_takeConditions_35 (m_St_addCondition fS fcd hi8 pC pq0) fS rfl (by rfl) (by rfl) (by decide) (by decide) (Nat.le_of_ble_eq_true rfl) ?_
            rintro v3 h3 ⟨rfl, co2, fS', fcd', pC2, kp3⟩
            have fP := kp3.get fP (nm_c (by first | assumption | exact Ne.symm (by assumption) | exact x_ne fP fS (by simp)) (nm_c (by first | assumption | exact Ne.symm (by assumption) | exact x_ne fP fcd (by simp)) nm_n))
            have fT := kp3.get fT (nm_c (by first | assumption | exact Ne.symm (by assumption) | exact x_ne fT fS (by simp)) (nm_c (by first | assumption | exact Ne.symm (by assumption) | exact x_ne fT fcd (by simp)) nm_n))
            have fkr := kp3.get fkr (nm_c (by first | assumption | exact Ne.symm (by assumption) | exact x_ne fkr fS (by simp)) (nm_c (by first | assumption | exact Ne.symm (by assumption) | exact x_ne fkr fcd (by simp)) nm_n))
            have fnr := kp3.get fnr (nm_c (by first | assumption | exact Ne.symm (by assumption) | exact x_ne fnr fS (by simp)) (nm_c (by first | assumption | exact Ne.symm (by assumption) | exact x_ne fnr fcd (by simp)) nm_n))
            have fq := kp3.get fq (nm_c (by first | assumption | exact Ne.symm (by assumption) | exact x_ne fq fS (by simp)) (nm_c (by first | assumption | exact Ne.symm (by assumption) | exact x_ne fq fcd (by simp)) nm_n))
            have kp := kp.call kp3 (kc_c (Or.inl (by simp)) (kc_c (Or.inl (by simp)) kc_n))
            have fS := fS'
            have fcd := fcd'
            refine x_bipush (v := 9) C d_Pa_takeConditions_38 (by decide) ?_
            refine x_istore_n (lv' := [(1, _), (3, _), (2, _), (0, _)]) C d_Pa_takeConditions_40 rfl (by decide) (by rfl) ?_
            refine x_iinc (v := nI (i + 1)) (k0 := 2) (lv' := [(2, _), (1, _), (3, _), (0, _)]) C d_Pa_takeConditions_41 (by rfl) (nI_1 i) (by decide) (by rfl) ?_
            refine x_goto (tgt := 5) C d_Pa_takeConditions_44 rfl ?_
            refine x_lv (lv' := [(2, _), (1, _), (0, _)]) [0, 1, 3] C (by rfl) ?_
            refine ih (i + 1) a9 b9 9 _ co2 (by omega) (by omega) (by omega) (by omega) (by decide) (by omega) ?_ (by rw [fP, show p + 4 * i + 1 + 3 = p + 4 * (i + 1) by omega]) ⟨fT, fkr, fnr, hkn, hn60⟩ fS fcd ?_ kp
            · rw [hT, show 8 - (i + 1) = m8 by omega, show p + 4 * (i + 1) = p + 4 * i + 4 by omega, Option.map_map]
              congr 1
              funext z
              show z + 1 + i = z + (i + 1)
              omega
            · exact lt_s (fun j hj => by have := pC2 j (by omega); rw [va_up_ne _ _ (by omega)] at this; exact this) (by have := pC2 i (by omega); rw [va_up_self] at this; exact this)
          · skip
            have fT := kp2.get fT (nm_c (by first | assumption | exact Ne.symm (by assumption) | exact x_ne fT fP (by simp)) nm_n)
            have fkr := kp2.get fkr (nm_c (by first | assumption | exact Ne.symm (by assumption) | exact x_ne fkr fP (by simp)) nm_n)
            have fnr := kp2.get fnr (nm_c (by first | assumption | exact Ne.symm (by assumption) | exact x_ne fnr fP (by simp)) nm_n)
            have fS := kp2.get fS (nm_c (by first | assumption | exact Ne.symm (by assumption) | exact x_ne fS fP (by simp)) nm_n)
            have fcd := kp2.get fcd (nm_c (by first | assumption | exact Ne.symm (by assumption) | exact x_ne fcd fP (by simp)) nm_n)
            have kp := kp.call kp2 (kc_c (Or.inl (by simp)) kc_n)
            rw [if_neg (by rw [hc]; decide)] at hT
            refine x_astore_nN (lv' := [(3, _), (2, _), (1, _), (0, _)]) C d_Pa_takeConditions_23 rfl (by decide) (by rfl) ?_
            refine x_aload_nN C d_Pa_takeConditions_24 rfl rfl ?_
            refine x_ifnonnullN C d_Pa_takeConditions_25 ?_
            refine x_iconst (v := 0) C d_Pa_takeConditions_28 (by decide) ?_
            refine x_zret C d_Pa_takeConditions_29 (by rfl) ?_
            exact Or.inr ⟨hT, rfl, kp⟩
  refine x_bipush (v := 8) C d_Pa_takeConditions_0 (by decide) ?_
  refine x_istore_n (lv' := [(1, _), (0, _)]) C d_Pa_takeConditions_2 rfl (by decide) (by rfl) ?_
  refine x_iconst (v := 0) C d_Pa_takeConditions_3 (by decide) ?_
  refine x_istore_n (lv' := [(2, _), (1, _), (0, _)]) C d_Pa_takeConditions_4 rfl (by decide) (by rfl) ?_
  exact loop 9 0 24 56 8 h co (by omega) (by omega) (by omega) (by omega) (by decide) (by omega) (by rw [← htc]; simp) fP ⟨fT, fkr, fnr, hkn, hn60⟩ fS fcd lt_0 xKeep.rf
set_option maxRecDepth 20000 in
set_option maxHeartbeats 1000000 in
theorem m_Pa_takeNumbers {V : xV} {h : xH} {P T kr nr S : Nat} {ks ns : Nat → Int32} {n p : Nat} (fP : h P = some (oPa T S (nI p))) (pT : pTo V h T kr nr ks ns n) (hp : p ≤ 60) {nb pk cd : Nat} {vb ls fi se fa np kc : Int32} {g : Nat → Int32} (fS : h S = some (oSt vb ls fi se fa 0 nb np pk kc cd)) (fnb : h nb = some (xI V 6 g)) {r : Nat} (hr : tRun ks n 3 60 p = r) : xM V y_Pa_takeNumbers b_Pa_takeNumbers 3 (some .boolean) 3 [.ref P] h 0 0 (fun v h' => ∃ g', v = some (.int (bI (decide (0 < r)))) ∧ h' P = some (oPa T S (nI (p + r))) ∧ h' S = some (oSt vb ls fi se fa (nI r) nb np pk kc cd) ∧ h' nb = some (xI V 6 g') ∧ (∀ j, j < r → j < 6 → g' j = ns (p + j)) ∧ p + r ≤ 60 ∧ xKeep [P, S, nb] h h') := by
  refine xM_of false (by decide) (fun h => nomatch h) (Nat.le_of_ble_eq_true rfl) (fun K C => ?_)
  show K 0 0 h 0 [(0, .ref P)] []
  have kp : xKeep [P, S, nb] h h := xKeep.rf
  obtain ⟨fT, fkr, fnr, hkn, hn60⟩ := pT
  have loop : ∀ m : Nat, ∀ (i c : Nat) (b : Bool) (h1 : xH) (g1 : Nat → Int32), 60 - i < m → i ≤ 60 → ((b = true ∧ c = i) ∨ (b = false ∧ c + 1 = i ∧ tK ks n (p + c) 3 = false)) → p + c ≤ 60 → r = c + tRun ks n 3 (60 - c) (p + c) → h1 P = some (oPa T S (nI (p + c))) → pTo V h1 T kr nr ks ns n → h1 S = some (oSt vb ls fi se fa (nI c) nb np pk kc cd) → h1 nb = some (xI V 6 g1) → (∀ j, j < c → j < 6 → g1 j = ns (p + j)) → xKeep [P, S, nb] h h1 → K 0 0 h1 7 [(2, .int (nI i)), (1, .int (bI b)), (0, .ref P)] [] := by
    intro m
    induction m with
    | zero => intro i c b h1 g1 hm hi hbc hpc hR fP pT fS fnb hg kp; omega
    | succ m ih =>
      intro i c b h1 g1 hm hi hbc hpc hR fP pT fS fnb hg kp
      obtain ⟨fT, fkr, fnr, hkn, hn60⟩ := pT
      have hend : (60 ≤ i ∨ b = false) → r = c := by
        intro hz
        rcases hbc with z | z
        · have hc6 : c = 60 := by rcases hz with y | y; omega; rw [z.1] at y; cases y
          rw [hR, hc6]
          rfl
        · rw [hR, tRun_no z.2.2]
          omega
      refine x_iload_n C d_Pa_takeNumbers_7 rfl rfl ?_
      refine x_bipush (v := 60) C d_Pa_takeNumbers_8 (by decide) ?_
      refine x_icmp_ge (tgt := 28) C d_Pa_takeNumbers_10 rfl (fun q10 => ?_) (fun q10 => ?_)
      · skip
        have hi6 := nge_of (b := 60) q10 (by decide)
        have hrc : r = c := hend (by first | exact Or.inl hi6 | exact Or.inr hb)
        subst hrc
        refine x_aload_n C d_Pa_takeNumbers_28 rfl rfl ?_
        refine x_get C k_Pa f_Pa_12 d_Pa_takeNumbers_29 fP (by rfl) ?_
        refine x_get C k_St f_Pa_90 d_Pa_takeNumbers_32 fS (by rfl) ?_
        refine x_if_le (tgt := 42) C d_Pa_takeNumbers_35 rfl (fun q35 => ?_) (fun q35 => ?_)
        · skip
          have hr0 : ¬ 0 < r := fun z => absurd q35 (nI_nle z (by omega))
          refine x_iconst (v := 0) C d_Pa_takeNumbers_42 (by decide) ?_
          refine x_zret C d_Pa_takeNumbers_43 (by rfl) ?_
          refine ⟨g1, ?_, fP, fS, fnb, hg, hpc, kp⟩
          simp [hr0, bI]
        · skip
          have hr0 : 0 < r := by rcases Nat.eq_zero_or_pos r with z | z; exact absurd (by rw [z]; decide) q35; exact z
          refine x_iconst (v := 1) C d_Pa_takeNumbers_38 (by decide) ?_
          refine x_goto (tgt := 43) C d_Pa_takeNumbers_39 rfl ?_
          refine x_zret C d_Pa_takeNumbers_43 (by rfl) ?_
          refine ⟨g1, ?_, fP, fS, fnb, hg, hpc, kp⟩
          simp [hr0, bI]
      · skip
        have hi6 := nlt_of (b := 60) q10 (by decide) (by omega)
        refine x_iload_n C d_Pa_takeNumbers_13 rfl rfl ?_
        refine x_if_eq (tgt := 28) C d_Pa_takeNumbers_14 rfl (fun q14 => ?_) (fun q14 => ?_)
        · skip
          have hb : b = false := bI_f q14
          have hrc : r = c := hend (by first | exact Or.inl hi6 | exact Or.inr hb)
          subst hrc
          refine x_aload_n C d_Pa_takeNumbers_28 rfl rfl ?_
          refine x_get C k_Pa f_Pa_12 d_Pa_takeNumbers_29 fP (by rfl) ?_
          refine x_get C k_St f_Pa_90 d_Pa_takeNumbers_32 fS (by rfl) ?_
          refine x_if_le (tgt := 42) C d_Pa_takeNumbers_35 rfl (fun q35 => ?_) (fun q35 => ?_)
          · skip
            have hr0 : ¬ 0 < r := fun z => absurd q35 (nI_nle z (by omega))
            refine x_iconst (v := 0) C d_Pa_takeNumbers_42 (by decide) ?_
            refine x_zret C d_Pa_takeNumbers_43 (by rfl) ?_
            refine ⟨g1, ?_, fP, fS, fnb, hg, hpc, kp⟩
            simp [hr0, bI]
          · skip
            have hr0 : 0 < r := by rcases Nat.eq_zero_or_pos r with z | z; exact absurd (by rw [z]; decide) q35; exact z
            refine x_iconst (v := 1) C d_Pa_takeNumbers_38 (by decide) ?_
            refine x_goto (tgt := 43) C d_Pa_takeNumbers_39 rfl ?_
            refine x_zret C d_Pa_takeNumbers_43 (by rfl) ?_
            refine ⟨g1, ?_, fP, fS, fnb, hg, hpc, kp⟩
            simp [hr0, bI]
        · skip
          have hb : b = true := bI_t q14
          have hc2 : c = i := by rcases hbc with z | z; exact z.2; rw [z.1] at hb; cases hb
          refine x_aload_n C d_Pa_takeNumbers_17 rfl rfl ?_
          refine x_callV C l_Pa_34 v_Pa_takeNumber d_Pa_takeNumbers_18 (m_Pa_takeNumber (p := p + c) fP ⟨fT, fkr, fnr, hkn, hn60⟩ hpc fS fnb (by omega)) fP rfl (by rfl) (by rfl) (by decide) (by decide) (Nat.le_of_ble_eq_true rfl) ?_
          rintro v1 h1 ⟨rfl, fP', fS', fnb', kp1⟩
          have fT := kp1.get fT (nm_c (by first | assumption | exact Ne.symm (by assumption) | exact x_ne fT fP (by simp)) (nm_c (by first | assumption | exact Ne.symm (by assumption) | exact x_ne fT fS (by simp)) (nm_c (by first | assumption | exact Ne.symm (by assumption) | exact x_ne fT fnb (by simp)) nm_n)))
          have fkr := kp1.get fkr (nm_c (by first | assumption | exact Ne.symm (by assumption) | exact x_ne fkr fP (by simp)) (nm_c (by first | assumption | exact Ne.symm (by assumption) | exact x_ne fkr fS (by simp)) (nm_c (by first | assumption | exact Ne.symm (by assumption) | exact x_ne fkr fnb (by simp)) nm_n)))
          have fnr := kp1.get fnr (nm_c (by first | assumption | exact Ne.symm (by assumption) | exact x_ne fnr fP (by simp)) (nm_c (by first | assumption | exact Ne.symm (by assumption) | exact x_ne fnr fS (by simp)) (nm_c (by first | assumption | exact Ne.symm (by assumption) | exact x_ne fnr fnb (by simp)) nm_n)))
          have kp := kp.call kp1 (kc_c (Or.inl (by simp)) (kc_c (Or.inl (by simp)) (kc_c (Or.inl (by simp)) kc_n)))
          have fP := fP'
          have fS := fS'
          have fnb := fnb'
          refine x_istore_n (lv' := [(1, _), (2, _), (0, _)]) C d_Pa_takeNumbers_21 rfl (by decide) (by rfl) ?_
          refine x_iinc (v := nI (i + 1)) (k0 := 1) (lv' := [(2, _), (1, _), (0, _)]) C d_Pa_takeNumbers_22 (by rfl) (nI_1 i) (by decide) (by rfl) ?_
          refine x_goto (tgt := 7) C d_Pa_takeNumbers_25 rfl ?_
          subst hc2
          by_cases ht : tK ks n (p + c) 3 = true
          · rw [if_pos ht] at fP fS fnb
            rw [ht]
            refine ih (c + 1) (c + 1) true _ _ (by omega) (by omega) (Or.inl ⟨rfl, rfl⟩) (by have := (tK_iff.mp ht).1; omega) ?_ (by rw [fP]; rfl) ⟨fT, fkr, fnr, hkn, hn60⟩ fS fnb (fun j h1 h2 => ?_) kp
            · obtain ⟨m6, hm6⟩ : ∃ m6, 60 - c = m6 + 1 := ⟨59 - c, by omega⟩
              rw [hR, hm6, tRun_yes ht, show 60 - (c + 1) = m6 by omega, show p + (c + 1) = p + c + 1 by omega]
              omega
            · by_cases hc6 : c < 6
              · rw [if_pos hc6]
                by_cases hj : j = c
                · rw [hj, pk_us]
                · rw [pk_un hj]; exact hg j (by omega) h2
              · rw [if_neg hc6]; exact hg j (by omega) h2
          · rw [if_neg ht] at fP fS fnb
            have hf := Bool.eq_false_iff.mpr ht
            rw [hf]
            exact ih (c + 1) c false _ _ (by omega) (by omega) (Or.inr ⟨rfl, rfl, hf⟩) hpc hR fP ⟨fT, fkr, fnr, hkn, hn60⟩ fS fnb hg kp
  refine x_aload_n C d_Pa_takeNumbers_0 rfl rfl ?_
  refine x_callV C l_Pa_34 v_Pa_takeNumber d_Pa_takeNumbers_1 (m_Pa_takeNumber (nc := 0) fP ⟨fT, fkr, fnr, hkn, hn60⟩ hp fS fnb (by decide)) fP rfl (by rfl) (by rfl) (by decide) (by decide) (Nat.le_of_ble_eq_true rfl) ?_
  rintro v2 h2 ⟨rfl, fP', fS', fnb', kp2⟩
  have fT := kp2.get fT (nm_c (by first | assumption | exact Ne.symm (by assumption) | exact x_ne fT fP (by simp)) (nm_c (by first | assumption | exact Ne.symm (by assumption) | exact x_ne fT fS (by simp)) (nm_c (by first | assumption | exact Ne.symm (by assumption) | exact x_ne fT fnb (by simp)) nm_n)))
  have fkr := kp2.get fkr (nm_c (by first | assumption | exact Ne.symm (by assumption) | exact x_ne fkr fP (by simp)) (nm_c (by first | assumption | exact Ne.symm (by assumption) | exact x_ne fkr fS (by simp)) (nm_c (by first | assumption | exact Ne.symm (by assumption) | exact x_ne fkr fnb (by simp)) nm_n)))
  have fnr := kp2.get fnr (nm_c (by first | assumption | exact Ne.symm (by assumption) | exact x_ne fnr fP (by simp)) (nm_c (by first | assumption | exact Ne.symm (by assumption) | exact x_ne fnr fS (by simp)) (nm_c (by first | assumption | exact Ne.symm (by assumption) | exact x_ne fnr fnb (by simp)) nm_n)))
  have kp := kp.call kp2 (kc_c (Or.inl (by simp)) (kc_c (Or.inl (by simp)) (kc_c (Or.inl (by simp)) kc_n)))
  have fP := fP'
  have fS := fS'
  have fnb := fnb'
  refine x_istore_n (lv' := [(1, _), (0, _)]) C d_Pa_takeNumbers_4 rfl (by decide) (by rfl) ?_
  refine x_iconst (v := 1) C d_Pa_takeNumbers_5 (by decide) ?_
  refine x_istore_n (lv' := [(2, _), (1, _), (0, _)]) C d_Pa_takeNumbers_6 rfl (by decide) (by rfl) ?_
  by_cases ht : tK ks n p 3 = true
  · rw [if_pos ht] at fP fS fnb
    rw [ht]
    refine loop 60 1 1 true _ _ (by omega) (by omega) (Or.inl ⟨rfl, rfl⟩) (by have := (tK_iff.mp ht).1; omega) ?_ fP ⟨fT, fkr, fnr, hkn, hn60⟩ fS fnb (fun j h1 h2 => ?_) kp
    · rw [← hr, tRun_yes ht]; exact Nat.add_comm _ _
    · have hj : j = 0 := by omega
      rw [hj, if_pos (by decide)]; exact pk_us
  · rw [if_neg ht] at fP fS fnb
    have hf := Bool.eq_false_iff.mpr ht
    rw [hf]
    exact loop 60 1 0 false _ _ (by omega) (by omega) (Or.inr ⟨rfl, rfl, hf⟩) hp (by rw [← hr]; simp) fP ⟨fT, fkr, fnr, hkn, hn60⟩ fS fnb (fun j h1 h2 => absurd h1 (by omega)) kp
set_option maxRecDepth 20000 in
set_option maxHeartbeats 1000000 in
theorem m_Pa_takeColumns {V : xV} {h : xH} {P T kr nr S : Nat} {ks ns : Nat → Int32} {n p : Nat} (fP : h P = some (oPa T S (nI p))) (pT : pTo V h T kr nr ks ns n) (hp : p ≤ 60) {nb pk cd : Nat} {vb ls fi se fa nc kc : Int32} {po : Nat → Option Nat} (fS : h S = some (oSt vb ls fi se fa nc nb 0 pk kc cd)) (fpk : h pk = some (xR V 2 12 po)) {mo r : Nat} (hmo : mo ≤ 8) (hr : tRun ks n 2 mo p = r) : xM V y_Pa_takeColumns b_Pa_takeColumns 3 (some .boolean) 3 [.ref P, .int (nI mo)] h 8 16 (fun v h' => ∃ po' pick, v = some (.int (bI (decide (0 < r)))) ∧ h' P = some (oPa T S (nI (p + r))) ∧ h' S = some (oSt vb ls fi se fa nc nb (nI r) pk kc cd) ∧ h' pk = some (xR V 2 12 po') ∧ pOps h' po' r pick ∧ (∀ j, j < r → pick j = ns (p + j)) ∧ r ≤ mo ∧ p + r ≤ 60 ∧ xKeep [P, S, pk] h h') := by
  refine xM_of false (by decide) (fun h => nomatch h) (Nat.le_of_ble_eq_true rfl) (fun K C => ?_)
  show K 8 16 h 0 [(0, .ref P), (1, .int (nI mo))] []
  have kp : xKeep [P, S, pk] h h := xKeep.rf
  obtain ⟨fT, fkr, fnr, hkn, hn60⟩ := pT
  have loop : ∀ m : Nat, ∀ (i a b : Nat) (h1 : xH) (po1 : Nat → Option Nat) (pick1 : Nat → Int32), mo - i < m → 8 - i ≤ a → 16 - 2 * i ≤ b → i ≤ mo → p + i ≤ 60 → r = i + tRun ks n 2 (mo - i) (p + i) → h1 P = some (oPa T S (nI (p + i))) → pTo V h1 T kr nr ks ns n → h1 S = some (oSt vb ls fi se fa nc nb (nI i) pk kc cd) → h1 pk = some (xR V 2 12 po1) → pOps h1 po1 i pick1 → (∀ j, j < i → pick1 j = ns (p + j)) → xKeep [P, S, pk] h h1 → K a b h1 2 [(2, .int (nI i)), (0, .ref P), (1, .int (nI mo))] [] := by
    intro m
    induction m with
    | zero => intro i a b h1 po1 pick1 hm ha hb hi hpi hR fP pT fS fpk pO1 hpk kp; omega
    | succ m ih =>
      intro i a b h1 po1 pick1 hm ha hb hi hpi hR fP pT fS fpk pO1 hpk kp
      obtain ⟨fT, fkr, fnr, hkn, hn60⟩ := pT
      refine x_iload_n C d_Pa_takeColumns_2 rfl rfl ?_
      refine x_iload_n C d_Pa_takeColumns_3 rfl rfl ?_
      refine x_icmp_ge (tgt := 57) C d_Pa_takeColumns_4 rfl (fun q4 => ?_) (fun q4 => ?_)
      · skip
        have hi6 := nge_of q4 (by omega)
        have hrc : r = i := by
          rw [hR]
          first | (rw [tRun_no q19]; omega) | (have : mo - i = 0 := (by omega); rw [this]; rfl)
        subst hrc
        refine x_aload_n C d_Pa_takeColumns_57 rfl rfl ?_
        refine x_get C k_Pa f_Pa_12 d_Pa_takeColumns_58 fP (by rfl) ?_
        refine x_get C k_St f_Pa_102 d_Pa_takeColumns_61 fS (by rfl) ?_
        refine x_if_le (tgt := 71) C d_Pa_takeColumns_64 rfl (fun q64 => ?_) (fun q64 => ?_)
        · skip
          have hr0 : ¬ 0 < r := fun z => absurd q64 (nI_nle z (by omega))
          refine x_iconst (v := 0) C d_Pa_takeColumns_71 (by decide) ?_
          refine x_zret C d_Pa_takeColumns_72 (by rfl) ?_
          refine ⟨po1, pick1, ?_, fP, fS, fpk, pO1, hpk, hi, hpi, kp⟩
          simp [hr0, bI]
        · skip
          have hr0 : 0 < r := by rcases Nat.eq_zero_or_pos r with z | z; exact absurd (by rw [z]; decide) q64; exact z
          refine x_iconst (v := 1) C d_Pa_takeColumns_67 (by decide) ?_
          refine x_goto (tgt := 72) C d_Pa_takeColumns_68 rfl ?_
          refine x_zret C d_Pa_takeColumns_72 (by rfl) ?_
          refine ⟨po1, pick1, ?_, fP, fS, fpk, pO1, hpk, hi, hpi, kp⟩
          simp [hr0, bI]
      · skip
        have hi6 := nlt_of q4 (by omega) (by omega)
        refine x_aload_n C d_Pa_takeColumns_7 rfl rfl ?_
        refine x_get C k_Pa f_Pa_18 d_Pa_takeColumns_8 fP (by rfl) ?_
        refine x_aload_n C d_Pa_takeColumns_11 rfl rfl ?_
        refine x_get C k_Pa f_Pa_52 d_Pa_takeColumns_12 fP (by rfl) ?_
        refine x_iconst (v := 2) C d_Pa_takeColumns_15 (by decide) ?_
        refine x_callV C l_Pa_75 v_To_isKind d_Pa_takeColumns_16 (m_To_isKind ⟨fT, fkr, fnr, hkn, hn60⟩ (nI (p + i)) 2) fT rfl (by rfl) (by rfl) (by decide) (by decide) (Nat.le_of_ble_eq_true rfl) ?_
        rintro v h' ⟨rfl, rfl⟩
        rw [kd_eq (by omega) (by omega)]
        refine x_if_eq (tgt := 57) C d_Pa_takeColumns_19 rfl (fun q19 => ?_) (fun q19 => ?_)
        · skip
          replace q19 := bI_f q19
          have hrc : r = i := by
            rw [hR]
            first | (rw [tRun_no q19]; omega) | (have : mo - i = 0 := (by omega); rw [this]; rfl)
          subst hrc
          refine x_aload_n C d_Pa_takeColumns_57 rfl rfl ?_
          refine x_get C k_Pa f_Pa_12 d_Pa_takeColumns_58 fP (by rfl) ?_
          refine x_get C k_St f_Pa_102 d_Pa_takeColumns_61 fS (by rfl) ?_
          refine x_if_le (tgt := 71) C d_Pa_takeColumns_64 rfl (fun q64 => ?_) (fun q64 => ?_)
          · skip
            have hr0 : ¬ 0 < r := fun z => absurd q64 (nI_nle z (by omega))
            refine x_iconst (v := 0) C d_Pa_takeColumns_71 (by decide) ?_
            refine x_zret C d_Pa_takeColumns_72 (by rfl) ?_
            refine ⟨po1, pick1, ?_, fP, fS, fpk, pO1, hpk, hi, hpi, kp⟩
            simp [hr0, bI]
          · skip
            have hr0 : 0 < r := by rcases Nat.eq_zero_or_pos r with z | z; exact absurd (by rw [z]; decide) q64; exact z
            refine x_iconst (v := 1) C d_Pa_takeColumns_67 (by decide) ?_
            refine x_goto (tgt := 72) C d_Pa_takeColumns_68 rfl ?_
            refine x_zret C d_Pa_takeColumns_72 (by rfl) ?_
            refine ⟨po1, pick1, ?_, fP, fS, fpk, pO1, hpk, hi, hpi, kp⟩
            simp [hr0, bI]
        · skip
          replace q19 := bI_t q19
          have hk := tK_iff.mp q19
          obtain ⟨a9, rfl⟩ : ∃ a9, a = a9 + 1 := ⟨a - 1, by omega⟩
          obtain ⟨b9, rfl⟩ : ∃ b9, b = b9 + 2 := ⟨b - 2, by omega⟩
          refine x_aload_n C d_Pa_takeColumns_22 rfl rfl ?_
          refine x_get C k_Pa f_Pa_12 d_Pa_takeColumns_23 fP (by rfl) ?_
          refine x_aload_n C d_Pa_takeColumns_26 rfl rfl ?_
          refine x_get C k_Pa f_Pa_18 d_Pa_takeColumns_27 fP (by rfl) ?_
          refine x_get C k_To f_Pa_79 d_Pa_takeColumns_30 fT (by rfl) ?_
          refine x_aload_n C d_Pa_takeColumns_33 rfl rfl ?_
          refine x_get C k_Pa f_Pa_52 d_Pa_takeColumns_34 fP (by rfl) ?_
          refine x_iald C d_Pa_takeColumns_37 fnr (vp_in_nI (by omega) (by decide)) ?_
          rw [nI_clamp (by omega)]
          refine x_callV C l_Pa_99 v_St_addPick d_Pa_takeColumns_38 (m_St_addPick fS fpk (by omega) pO1 (ns (p + i))) fS rfl (by rfl) (by rfl) (by decide) (by decide) (Nat.le_of_ble_eq_true rfl) ?_
          rintro v1 h1 ⟨rfl, po2, fS', fpk', pO2, kp1⟩
          have fP := kp1.get fP (nm_c (by first | assumption | exact Ne.symm (by assumption) | exact x_ne fP fS (by simp)) (nm_c (by first | assumption | exact Ne.symm (by assumption) | exact x_ne fP fpk (by simp)) nm_n))
          have fT := kp1.get fT (nm_c (by first | assumption | exact Ne.symm (by assumption) | exact x_ne fT fS (by simp)) (nm_c (by first | assumption | exact Ne.symm (by assumption) | exact x_ne fT fpk (by simp)) nm_n))
          have fkr := kp1.get fkr (nm_c (by first | assumption | exact Ne.symm (by assumption) | exact x_ne fkr fS (by simp)) (nm_c (by first | assumption | exact Ne.symm (by assumption) | exact x_ne fkr fpk (by simp)) nm_n))
          have fnr := kp1.get fnr (nm_c (by first | assumption | exact Ne.symm (by assumption) | exact x_ne fnr fS (by simp)) (nm_c (by first | assumption | exact Ne.symm (by assumption) | exact x_ne fnr fpk (by simp)) nm_n))
          have kp := kp.call kp1 (kc_c (Or.inl (by simp)) (kc_c (Or.inl (by simp)) kc_n))
          have fS := fS'
          have fpk := fpk'
          have fP3 := fP
          have pO3 : pOps h1 po2 (i + 1) (upd pick1 i (ns (p + i))) := pO2
          refine x_aload_n C d_Pa_takeColumns_41 rfl rfl ?_
          refine x_dup C d_Pa_takeColumns_42 rfl ?_
          refine x_get C k_Pa f_Pa_52 d_Pa_takeColumns_43 fP (by rfl) ?_
          refine x_iconst (v := 1) C d_Pa_takeColumns_46 (by decide) ?_
          refine x_iadd C d_Pa_takeColumns_47 ?_
          refine x_put (fs' := [_, _, _]) C k_Pa f_Pa_52 d_Pa_takeColumns_48 fP (by rfl) (by rfl) (by rfl) (Nat.le_of_ble_eq_true rfl) (by rfl) (fun h2 u2 => ?_)
          have fT := xUp_ne u2 fT (by first | assumption | exact Ne.symm (by assumption) | exact x_ne fT fP (by simp))
          have fkr := xUp_ne u2 fkr (by first | assumption | exact Ne.symm (by assumption) | exact x_ne fkr fP (by simp))
          have fnr := xUp_ne u2 fnr (by first | assumption | exact Ne.symm (by assumption) | exact x_ne fnr fP (by simp))
          have fS := xUp_ne u2 fS (by first | assumption | exact Ne.symm (by assumption) | exact x_ne fS fP (by simp))
          have fpk := xUp_ne u2 fpk (by first | assumption | exact Ne.symm (by assumption) | exact x_ne fpk fP (by simp))
          have fP := xUp_at u2
          have kp := kp.up u2 (by simp)
          refine x_iinc (v := nI (i + 1)) (k0 := 0) (lv' := [(2, _), (0, _), (1, _)]) C d_Pa_takeColumns_51 (by rfl) (nI_1 i) (by decide) (by rfl) ?_
          refine x_goto (tgt := 2) C d_Pa_takeColumns_54 rfl ?_
          refine ih (i + 1) a9 b9 _ po2 (upd pick1 i (ns (p + i))) (by omega) (by omega) (by omega) (by omega) (by omega) ?_ (by rw [fP, nI_1, show p + i + 1 = p + (i + 1) by omega]) ⟨fT, fkr, fnr, hkn, hn60⟩ fS fpk ?_ (lt_s (fun j hj => by rw [pk_un (by omega)]; exact hpk j hj) pk_us) kp
          · obtain ⟨m6, hm6⟩ : ∃ m6, mo - i = m6 + 1 := ⟨mo - i - 1, by omega⟩
            rw [hR, hm6, tRun_yes q19, show mo - (i + 1) = m6 by omega, show p + (i + 1) = p + i + 1 by omega]
            omega
          · exact pO3.keep (xKeep.ops (xKeep.rf.up (M := [P]) u2 (by simp)) (no_c fP3 rfl no_n))
  refine x_iconst (v := 0) C d_Pa_takeColumns_0 (by decide) ?_
  refine x_istore_n (lv' := [(2, _), (0, _), (1, _)]) C d_Pa_takeColumns_1 rfl (by decide) (by rfl) ?_
  exact loop (mo + 1) 0 8 16 h po (fun _ => 0) (by omega) (by omega) (by omega) (by omega) (by omega) (by rw [← hr]; simp) fP ⟨fT, fkr, fnr, hkn, hn60⟩ fS fpk lt_0 lt_0 kp
set_option maxRecDepth 20000 in
set_option maxHeartbeats 1000000 in
theorem m_Pa_takeList {V : xV} {h : xH} {P T kr nr S : Nat} {ks ns : Nat → Int32} {n p : Nat} (fP : h P = some (oPa T S (nI p))) (pT : pTo V h T kr nr ks ns n) (hp : p ≤ 60) {nb pk cd : Nat} {vb fi se fa nc kc : Int32} {po : Nat → Option Nat} (fS : h S = some (oSt vb (-1) fi se fa nc nb 0 pk kc cd)) (fpk : h pk = some (xR V 2 12 po)) : xM V y_Pa_takeList b_Pa_takeList 1 (some .boolean) 4 [.ref P] h 8 16 (fun v h' => ∃ (ok : Bool) (r q : Nat) (ls : Int32), v = some (.int (bI ok)) ∧ tLst ks ns n p = (ok, r, q, ls) ∧ xKeep [P, S, pk] h h' ∧ (ok = true → r ≤ 8 ∧ q ≤ 60 ∧ h' P = some (oPa T S (nI q)) ∧ h' S = some (oSt vb ls fi se fa nc nb (nI r) pk kc cd) ∧ ∃ po' pick, h' pk = some (xR V 2 12 po') ∧ pOps h' po' r pick ∧ ∀ j, j < r → pick j = ns ((if ls = 6 then p + 1 else p) + j))) := by
  refine xM_of false (by decide) (fun h => nomatch h) (Nat.le_of_ble_eq_true rfl) (fun K C => ?_)
  show K 8 16 h 0 [(0, .ref P)] []
  have kp : xKeep [P, S, pk] h h := xKeep.rf
  obtain ⟨fT, fkr, fnr, hkn, hn60⟩ := pT
  refine x_aload_n C d_Pa_takeList_0 rfl rfl ?_
  refine x_iconst (v := 4) C d_Pa_takeList_1 (by decide) ?_
  refine x_callV C l_Pa_60 v_Pa_takeWord d_Pa_takeList_2 (m_Pa_takeWord fP ⟨fT, fkr, fnr, hkn, hn60⟩ hp 4 (by decide)) fP rfl (by rfl) (by rfl) (by decide) (by decide) (Nat.le_of_ble_eq_true rfl) ?_
  rintro v1 h1 ⟨rfl, fP', kp1⟩
  have fT := kp1.get fT (nm_c (by first | assumption | exact Ne.symm (by assumption) | exact x_ne fT fP (by simp)) nm_n)
  have fkr := kp1.get fkr (nm_c (by first | assumption | exact Ne.symm (by assumption) | exact x_ne fkr fP (by simp)) nm_n)
  have fnr := kp1.get fnr (nm_c (by first | assumption | exact Ne.symm (by assumption) | exact x_ne fnr fP (by simp)) nm_n)
  have fS := kp1.get fS (nm_c (by first | assumption | exact Ne.symm (by assumption) | exact x_ne fS fP (by simp)) nm_n)
  have fpk := kp1.get fpk (nm_c (by first | assumption | exact Ne.symm (by assumption) | exact x_ne fpk fP (by simp)) nm_n)
  have kp := kp.call kp1 (kc_c (Or.inl (by simp)) kc_n)
  have fP := fP'
  refine x_if_eq (tgt := 18) C d_Pa_takeList_5 rfl (fun q5 => ?_) (fun q5 => ?_)
  · skip
    replace q5 := bI_f q5
    have y5 : ¬ tW ks ns n p 4 4 = true := by rw [q5]; decide
    rw [if_neg y5] at fP
    refine x_aload_n C d_Pa_takeList_18 rfl rfl ?_
    refine x_iconst (v := 5) C d_Pa_takeList_19 (by decide) ?_
    refine x_callV C l_Pa_60 v_Pa_takeWord d_Pa_takeList_20 (m_Pa_takeWord fP ⟨fT, fkr, fnr, hkn, hn60⟩ hp 5 (by decide)) fP rfl (by rfl) (by rfl) (by decide) (by decide) (Nat.le_of_ble_eq_true rfl) ?_
    rintro v2 h2 ⟨rfl, fP', kp2⟩
    have fT := kp2.get fT (nm_c (by first | assumption | exact Ne.symm (by assumption) | exact x_ne fT fP (by simp)) nm_n)
    have fkr := kp2.get fkr (nm_c (by first | assumption | exact Ne.symm (by assumption) | exact x_ne fkr fP (by simp)) nm_n)
    have fnr := kp2.get fnr (nm_c (by first | assumption | exact Ne.symm (by assumption) | exact x_ne fnr fP (by simp)) nm_n)
    have fS := kp2.get fS (nm_c (by first | assumption | exact Ne.symm (by assumption) | exact x_ne fS fP (by simp)) nm_n)
    have fpk := kp2.get fpk (nm_c (by first | assumption | exact Ne.symm (by assumption) | exact x_ne fpk fP (by simp)) nm_n)
    have kp := kp.call kp2 (kc_c (Or.inl (by simp)) kc_n)
    have fP := fP'
    refine x_if_eq (tgt := 36) C d_Pa_takeList_23 rfl (fun q23 => ?_) (fun q23 => ?_)
    · skip
      replace q23 := bI_f q23
      have y23 : ¬ tW ks ns n p 5 5 = true := by rw [q23]; decide
      rw [if_neg y23] at fP
      refine x_aload_n C d_Pa_takeList_36 rfl rfl ?_
      refine x_bipush (v := 6) C d_Pa_takeList_37 (by decide) ?_
      refine x_callV C l_Pa_60 v_Pa_takeWord d_Pa_takeList_39 (m_Pa_takeWord fP ⟨fT, fkr, fnr, hkn, hn60⟩ hp 6 (by decide)) fP rfl (by rfl) (by rfl) (by decide) (by decide) (Nat.le_of_ble_eq_true rfl) ?_
      rintro v3 h3 ⟨rfl, fP', kp3⟩
      have fT := kp3.get fT (nm_c (by first | assumption | exact Ne.symm (by assumption) | exact x_ne fT fP (by simp)) nm_n)
      have fkr := kp3.get fkr (nm_c (by first | assumption | exact Ne.symm (by assumption) | exact x_ne fkr fP (by simp)) nm_n)
      have fnr := kp3.get fnr (nm_c (by first | assumption | exact Ne.symm (by assumption) | exact x_ne fnr fP (by simp)) nm_n)
      have fS := kp3.get fS (nm_c (by first | assumption | exact Ne.symm (by assumption) | exact x_ne fS fP (by simp)) nm_n)
      have fpk := kp3.get fpk (nm_c (by first | assumption | exact Ne.symm (by assumption) | exact x_ne fpk fP (by simp)) nm_n)
      have kp := kp.call kp3 (kc_c (Or.inl (by simp)) kc_n)
      have fP := fP'
      refine x_if_eq (tgt := 60) C d_Pa_takeList_42 rfl (fun q42 => ?_) (fun q42 => ?_)
      · skip
        replace q42 := bI_f q42
        have y42 : ¬ tW ks ns n p 6 6 = true := by rw [q42]; decide
        rw [if_neg y42] at fP
        refine x_aload_n C d_Pa_takeList_60 rfl rfl ?_
        refine x_bipush (v := 8) C d_Pa_takeList_61 (by decide) ?_
        refine x_callV C l_Pa_96 v_Pa_takeColumns d_Pa_takeList_63 (m_Pa_takeColumns (p := p) (mo := 8) (r := tRun ks n 2 8 p) fP ⟨fT, fkr, fnr, hkn, hn60⟩ hp fS fpk (by decide) rfl) fP rfl (by rfl) (by rfl) (by decide) (by decide) (Nat.le_of_ble_eq_true rfl) ?_
        rintro v4 h4 ⟨po', pick, rfl, fP', fS', fpk', pO, hpk, hr8, hq60, kp4⟩
        have fT := kp4.get fT (nm_c (by first | assumption | exact Ne.symm (by assumption) | exact x_ne fT fP (by simp)) (nm_c (by first | assumption | exact Ne.symm (by assumption) | exact x_ne fT fS (by simp)) (nm_c (by first | assumption | exact Ne.symm (by assumption) | exact x_ne fT fpk (by simp)) nm_n)))
        have fkr := kp4.get fkr (nm_c (by first | assumption | exact Ne.symm (by assumption) | exact x_ne fkr fP (by simp)) (nm_c (by first | assumption | exact Ne.symm (by assumption) | exact x_ne fkr fS (by simp)) (nm_c (by first | assumption | exact Ne.symm (by assumption) | exact x_ne fkr fpk (by simp)) nm_n)))
        have fnr := kp4.get fnr (nm_c (by first | assumption | exact Ne.symm (by assumption) | exact x_ne fnr fP (by simp)) (nm_c (by first | assumption | exact Ne.symm (by assumption) | exact x_ne fnr fS (by simp)) (nm_c (by first | assumption | exact Ne.symm (by assumption) | exact x_ne fnr fpk (by simp)) nm_n)))
        have kp := kp.call kp4 (kc_c (Or.inl (by simp)) (kc_c (Or.inl (by simp)) (kc_c (Or.inl (by simp)) kc_n)))
        have fP := fP'
        have fS := fS'
        have fpk := fpk'
        refine x_zret C d_Pa_takeList_66 (by first | rfl | (cases (decide (0 < tRun ks n 2 1 (p + 1))) <;> rfl) | (cases (decide (0 < tRun ks n 2 8 p)) <;> rfl)) ?_
        exact ⟨_, _, _, -1, rfl, by unfold tLst; rw [if_neg y5, if_neg y23, if_neg y42], kp, fun _ => ⟨by omega, by omega, fP, fS, po', pick, fpk, pO, fun j hj => by rw [if_neg (by decide)]; exact hpk j hj⟩⟩
      · skip
        replace q42 := bI_t q42
        rw [if_pos q42] at fP
        have hw := tW_iff.mp q42
        refine x_aload_n C d_Pa_takeList_45 rfl rfl ?_
        refine x_get C k_Pa f_Pa_12 d_Pa_takeList_46 fP (by rfl) ?_
        refine x_bipush (v := 6) C d_Pa_takeList_49 (by decide) ?_
        refine x_put (fs' := [_, _, _, _, _, _, _, _, _, _, _]) C k_St f_Pa_93 d_Pa_takeList_51 fS (by rfl) (by rfl) (by rfl) (Nat.le_of_ble_eq_true rfl) (by rfl) (fun h5 u5 => ?_)
        have fP := xUp_ne u5 fP (by first | assumption | exact Ne.symm (by assumption) | exact x_ne fP fS (by simp))
        have fT := xUp_ne u5 fT (by first | assumption | exact Ne.symm (by assumption) | exact x_ne fT fS (by simp))
        have fkr := xUp_ne u5 fkr (by first | assumption | exact Ne.symm (by assumption) | exact x_ne fkr fS (by simp))
        have fnr := xUp_ne u5 fnr (by first | assumption | exact Ne.symm (by assumption) | exact x_ne fnr fS (by simp))
        have fpk := xUp_ne u5 fpk (by first | assumption | exact Ne.symm (by assumption) | exact x_ne fpk fS (by simp))
        have fS := xUp_at u5
        have kp := kp.up u5 (by simp)
        refine x_aload_n C d_Pa_takeList_54 rfl rfl ?_
        refine x_iconst (v := 1) C d_Pa_takeList_55 (by decide) ?_
        refine x_callV C l_Pa_96 v_Pa_takeColumns d_Pa_takeList_56 (m_Pa_takeColumns (p := p + 1) (mo := 1) (r := tRun ks n 2 1 (p + 1)) fP ⟨fT, fkr, fnr, hkn, hn60⟩ (by omega) fS fpk (by decide) rfl) fP rfl (by rfl) (by rfl) (by decide) (by decide) (Nat.le_of_ble_eq_true rfl) ?_
        rintro v6 h6 ⟨po', pick, rfl, fP', fS', fpk', pO, hpk, hr8, hq60, kp6⟩
        have fT := kp6.get fT (nm_c (by first | assumption | exact Ne.symm (by assumption) | exact x_ne fT fP (by simp)) (nm_c (by first | assumption | exact Ne.symm (by assumption) | exact x_ne fT fS (by simp)) (nm_c (by first | assumption | exact Ne.symm (by assumption) | exact x_ne fT fpk (by simp)) nm_n)))
        have fkr := kp6.get fkr (nm_c (by first | assumption | exact Ne.symm (by assumption) | exact x_ne fkr fP (by simp)) (nm_c (by first | assumption | exact Ne.symm (by assumption) | exact x_ne fkr fS (by simp)) (nm_c (by first | assumption | exact Ne.symm (by assumption) | exact x_ne fkr fpk (by simp)) nm_n)))
        have fnr := kp6.get fnr (nm_c (by first | assumption | exact Ne.symm (by assumption) | exact x_ne fnr fP (by simp)) (nm_c (by first | assumption | exact Ne.symm (by assumption) | exact x_ne fnr fS (by simp)) (nm_c (by first | assumption | exact Ne.symm (by assumption) | exact x_ne fnr fpk (by simp)) nm_n)))
        have kp := kp.call kp6 (kc_c (Or.inl (by simp)) (kc_c (Or.inl (by simp)) (kc_c (Or.inl (by simp)) kc_n)))
        have fP := fP'
        have fS := fS'
        have fpk := fpk'
        refine x_zret C d_Pa_takeList_59 (by first | rfl | (cases (decide (0 < tRun ks n 2 1 (p + 1))) <;> rfl) | (cases (decide (0 < tRun ks n 2 8 p)) <;> rfl)) ?_
        exact ⟨_, _, _, 6, rfl, by unfold tLst; rw [if_neg y5, if_neg y23, if_pos q42], kp, fun _ => ⟨by omega, by omega, fP, fS, po', pick, fpk, pO, fun j hj => by rw [if_pos rfl]; exact hpk j hj⟩⟩
    · skip
      replace q23 := bI_t q23
      rw [if_pos q23] at fP
      have hw := tW_iff.mp q23
      refine x_aload_n C d_Pa_takeList_26 rfl rfl ?_
      refine x_get C k_Pa f_Pa_12 d_Pa_takeList_27 fP (by rfl) ?_
      refine x_iconst (v := 5) C d_Pa_takeList_30 (by decide) ?_
      refine x_put (fs' := [_, _, _, _, _, _, _, _, _, _, _]) C k_St f_Pa_93 d_Pa_takeList_31 fS (by rfl) (by rfl) (by rfl) (Nat.le_of_ble_eq_true rfl) (by rfl) (fun h7 u7 => ?_)
      have fP := xUp_ne u7 fP (by first | assumption | exact Ne.symm (by assumption) | exact x_ne fP fS (by simp))
      have fT := xUp_ne u7 fT (by first | assumption | exact Ne.symm (by assumption) | exact x_ne fT fS (by simp))
      have fkr := xUp_ne u7 fkr (by first | assumption | exact Ne.symm (by assumption) | exact x_ne fkr fS (by simp))
      have fnr := xUp_ne u7 fnr (by first | assumption | exact Ne.symm (by assumption) | exact x_ne fnr fS (by simp))
      have fpk := xUp_ne u7 fpk (by first | assumption | exact Ne.symm (by assumption) | exact x_ne fpk fS (by simp))
      have fS := xUp_at u7
      have kp := kp.up u7 (by simp)
      refine x_iconst (v := 1) C d_Pa_takeList_34 (by decide) ?_
      refine x_zret C d_Pa_takeList_35 (by first | rfl | (cases (decide (0 < tRun ks n 2 1 (p + 1))) <;> rfl) | (cases (decide (0 < tRun ks n 2 8 p)) <;> rfl)) ?_
      exact ⟨true, 0, p + 1, 5, rfl, by unfold tLst; rw [if_neg y5, if_pos q23], kp, fun _ => ⟨by omega, by omega, fP, fS, po, (fun _ => 0), fpk, lt_0, lt_0⟩⟩
  · skip
    replace q5 := bI_t q5
    rw [if_pos q5] at fP
    have hw := tW_iff.mp q5
    refine x_aload_n C d_Pa_takeList_8 rfl rfl ?_
    refine x_get C k_Pa f_Pa_12 d_Pa_takeList_9 fP (by rfl) ?_
    refine x_iconst (v := 4) C d_Pa_takeList_12 (by decide) ?_
    refine x_put (fs' := [_, _, _, _, _, _, _, _, _, _, _]) C k_St f_Pa_93 d_Pa_takeList_13 fS (by rfl) (by rfl) (by rfl) (Nat.le_of_ble_eq_true rfl) (by rfl) (fun h8 u8 => ?_)
    have fP := xUp_ne u8 fP (by first | assumption | exact Ne.symm (by assumption) | exact x_ne fP fS (by simp))
    have fT := xUp_ne u8 fT (by first | assumption | exact Ne.symm (by assumption) | exact x_ne fT fS (by simp))
    have fkr := xUp_ne u8 fkr (by first | assumption | exact Ne.symm (by assumption) | exact x_ne fkr fS (by simp))
    have fnr := xUp_ne u8 fnr (by first | assumption | exact Ne.symm (by assumption) | exact x_ne fnr fS (by simp))
    have fpk := xUp_ne u8 fpk (by first | assumption | exact Ne.symm (by assumption) | exact x_ne fpk fS (by simp))
    have fS := xUp_at u8
    have kp := kp.up u8 (by simp)
    refine x_iconst (v := 1) C d_Pa_takeList_16 (by decide) ?_
    refine x_zret C d_Pa_takeList_17 (by first | rfl | (cases (decide (0 < tRun ks n 2 1 (p + 1))) <;> rfl) | (cases (decide (0 < tRun ks n 2 8 p)) <;> rfl)) ?_
    exact ⟨true, 0, p + 1, 4, rfl, by unfold tLst; rw [if_pos q5], kp, fun _ => ⟨by omega, by omega, fP, fS, po, (fun _ => 0), fpk, lt_0, lt_0⟩⟩
set_option maxRecDepth 20000 in
set_option maxHeartbeats 1000000 in
theorem m_Pa_init {V : xV} {h : xH} {P : Nat} (fP : h P = some (.inr (2, [.null, .null, .int 0]))) (T : Nat) : xM V y_Pa_init b_Pa_init 2 none 2 [.ref P, .ref T] h 4 37 (fun v h' => v = none ∧ ∃ S nb pk cd, h' P = some (oPa T S (nI 0)) ∧ h' S = some (oSt 0 (-1) (-1) (-1) 0 0 nb 0 pk 0 cd) ∧ h' nb = some (xI V 6 (fun _ => 0)) ∧ h' pk = some (xR V 2 12 (fun _ => none)) ∧ h' cd = some (xR V 3 8 (fun _ => none)) ∧ h S = none ∧ h nb = none ∧ h pk = none ∧ h cd = none ∧ xKeep [P] h h') := by
  refine xM_of true (by decide) (fun _ => rfl) (Nat.le_of_ble_eq_true rfl) (fun K C => ?_)
  show K 4 37 h 0 [(0, .ref P), (1, .ref T)] []
  have kp : xKeep [P] h h := xKeep.rf
  refine x_aload_n C d_Pa_init_0 rfl rfl ?_
  refine x_objInit C ⟨l_Pa_3, oi_i, oi_c⟩ (by decide) (Nat.le_of_ble_eq_true rfl) d_Pa_init_1 ?_
  refine x_aload_n C d_Pa_init_4 rfl rfl ?_
  refine x_new (fs := [.int 0, .int 0, .int 0, .int 0, .int 0, .int 0, .null, .int 0, .null, .int 0, .null]) C k_St ⟨c_Pa_9, n_St.1, n_St.2⟩ d_Pa_init_5 (by decide +revert) (fun S h1 n1 u1 => ?_)
  have x1_P := x_nn fP n1
  have fP := xUp_new u1 n1 fP
  have z_S := kp.isn n1 (by simp only [List.mem_cons, List.not_mem_nil, or_false, not_or]; exact Ne.symm x1_P)
  have kp := kp.upN u1 z_S
  have f_S := xUp_at u1
  refine x_dup C d_Pa_init_8 rfl ?_
  refine x_callI C l_Pa_11 v_St_init d_Pa_init_9 (m_St_init f_S) rfl (by rfl) (by rfl) (by decide) (by decide) (Nat.le_of_ble_eq_true rfl) ?_
  rintro v2 h2 ⟨rfl, nb, pk, cd, fS', f_nb, f_pk, f_cd, y_nb, y_pk, y_cd, kp2⟩
  have z_nb := kp.isn y_nb (nm_c (Ne.symm (x_nn fP y_nb)) nm_n)
  have z_pk := kp.isn y_pk (nm_c (Ne.symm (x_nn fP y_pk)) nm_n)
  have z_cd := kp.isn y_cd (nm_c (Ne.symm (x_nn fP y_cd)) nm_n)
  have fP := kp2.get fP (nm_c (by first | assumption | exact Ne.symm (by assumption) | exact x_ne fP f_S (by simp)) nm_n)
  have kp := kp.call kp2 (kc_c (Or.inr z_S) kc_n)
  have f_S := fS'
  refine x_putF (fs' := [_, _, _]) C k_Pa g_Pa_12 d_Pa_init_12 fP (by rfl) (by rfl) (by rfl) (Nat.le_of_ble_eq_true rfl) (by rfl) (fun h3 u3 => ?_)
  have f_S := xUp_ne u3 f_S (by first | assumption | exact Ne.symm (by assumption) | exact x_ne f_S fP (by simp))
  have f_nb := xUp_ne u3 f_nb (by first | assumption | exact Ne.symm (by assumption) | exact x_ne f_nb fP (by simp))
  have f_pk := xUp_ne u3 f_pk (by first | assumption | exact Ne.symm (by assumption) | exact x_ne f_pk fP (by simp))
  have f_cd := xUp_ne u3 f_cd (by first | assumption | exact Ne.symm (by assumption) | exact x_ne f_cd fP (by simp))
  have fP := xUp_at u3
  have kp := kp.up u3 (by simp)
  refine x_aload_n C d_Pa_init_15 rfl rfl ?_
  refine x_aload_n C d_Pa_init_16 rfl rfl ?_
  refine x_putF (fs' := [_, _, _]) C k_Pa g_Pa_18 d_Pa_init_17 fP (by rfl) (by rfl) (by rfl) (Nat.le_of_ble_eq_true rfl) (by rfl) (fun h4 u4 => ?_)
  have f_S := xUp_ne u4 f_S (by first | assumption | exact Ne.symm (by assumption) | exact x_ne f_S fP (by simp))
  have f_nb := xUp_ne u4 f_nb (by first | assumption | exact Ne.symm (by assumption) | exact x_ne f_nb fP (by simp))
  have f_pk := xUp_ne u4 f_pk (by first | assumption | exact Ne.symm (by assumption) | exact x_ne f_pk fP (by simp))
  have f_cd := xUp_ne u4 f_cd (by first | assumption | exact Ne.symm (by assumption) | exact x_ne f_cd fP (by simp))
  have fP := xUp_at u4
  have kp := kp.up u4 (by simp)
  refine x_vret C d_Pa_init_20 ?_
  exact ⟨rfl, S, nb, pk, cd, fP, f_S, f_nb, f_pk, f_cd, z_S, z_nb, z_pk, z_cd, kp⟩
set_option maxRecDepth 20000 in
set_option maxHeartbeats 1000000 in
theorem m_Pa_parse {V : xV} {h : xH} {P T kr nr S : Nat} {ks ns : Nat → Int32} {n : Nat} (fP : h P = some (oPa T S (nI 0))) (pT : pTo V h T kr nr ks ns n) {nb pk cd : Nat} {po co : Nat → Option Nat} {g : Nat → Int32} (fS : h S = some (oSt 0 (-1) (-1) (-1) 0 0 nb 0 pk 0 cd)) (fnb : h nb = some (xI V 6 g)) (fpk : h pk = some (xR V 2 12 po)) (fcd : h cd = some (xR V 3 8 co)) : xM V y_Pa_parse b_Pa_parse 2 (some (.object "CursorBase$Statement")) 5 [.ref P] h 32 72 (fun v h' => (tParse ks ns n = none ∧ v = some .null ∧ xKeep [P, S, nb, pk, cd] h h') ∨ (∃ dd, tParse ks ns n = some dd ∧ v = some (.ref S) ∧ xKeep [P, S, nb, pk, cd] h h' ∧ ∃ g' po' co' pick cf, h' S = some (oSt dd.1.1 dd.1.2.1 dd.1.2.2.1 dd.1.2.2.2.1 (bI dd.1.2.2.2.2) (nI dd.2.1) nb (nI dd.2.2.1) pk (nI dd.2.2.2.2.1) cd) ∧ h' nb = some (xI V 6 g') ∧ (∀ j, j < dd.2.1 → j < 6 → g' j = ns (2 + j)) ∧ h' pk = some (xR V 2 12 po') ∧ pOps h' po' dd.2.2.1 pick ∧ (∀ j, j < dd.2.2.1 → pick j = ns (dd.2.2.2.1 + j)) ∧ dd.2.2.1 ≤ 8 ∧ h' cd = some (xR V 3 8 co') ∧ pCds h' co' dd.2.2.2.2.1 cf ∧ (∀ j, j < dd.2.2.2.2.1 → cf j = cdAt ks ns (dd.2.2.2.2.2 + 4 * j + 1)) ∧ dd.2.2.2.2.1 ≤ 8)) := by
  refine xM_of false (by decide) (fun h => nomatch h) (Nat.le_of_ble_eq_true rfl) (fun K C => ?_)
  show K 32 72 h 0 [(0, .ref P)] []
  have kp : xKeep [P, S, nb, pk, cd] h h := xKeep.rf
  obtain ⟨fT, fkr, fnr, hkn, hn60⟩ := pT
  refine x_aload_n C d_Pa_parse_0 rfl rfl ?_
  refine x_get C k_Pa f_Pa_12 d_Pa_parse_1 fP (by rfl) ?_
  refine x_aload_n C d_Pa_parse_4 rfl rfl ?_
  refine x_iconst (v := 0) C d_Pa_parse_5 (by decide) ?_
  refine x_iconst (v := 3) C d_Pa_parse_6 (by decide) ?_
  refine x_callV C l_Pa_22 v_Pa_takeWordBetween d_Pa_parse_7 (m_Pa_takeWordBetween (p := 0) fP ⟨fT, fkr, fnr, hkn, hn60⟩ (by omega) 0 3) fP rfl (by rfl) (by rfl) (by decide) (by decide) (Nat.le_of_ble_eq_true rfl) ?_
  rintro v1 h1 ⟨rfl, fP', kp1⟩
  have fT := kp1.get fT (nm_c (by first | assumption | exact Ne.symm (by assumption) | exact x_ne fT fP (by simp)) nm_n)
  have fkr := kp1.get fkr (nm_c (by first | assumption | exact Ne.symm (by assumption) | exact x_ne fkr fP (by simp)) nm_n)
  have fnr := kp1.get fnr (nm_c (by first | assumption | exact Ne.symm (by assumption) | exact x_ne fnr fP (by simp)) nm_n)
  have fS := kp1.get fS (nm_c (by first | assumption | exact Ne.symm (by assumption) | exact x_ne fS fP (by simp)) nm_n)
  have fnb := kp1.get fnb (nm_c (by first | assumption | exact Ne.symm (by assumption) | exact x_ne fnb fP (by simp)) nm_n)
  have fpk := kp1.get fpk (nm_c (by first | assumption | exact Ne.symm (by assumption) | exact x_ne fpk fP (by simp)) nm_n)
  have fcd := kp1.get fcd (nm_c (by first | assumption | exact Ne.symm (by assumption) | exact x_ne fcd fP (by simp)) nm_n)
  have kp := kp.call kp1 (kc_c (Or.inl (by simp)) kc_n)
  have fP := fP'
  refine x_put (fs' := [_, _, _, _, _, _, _, _, _, _, _]) C k_St f_Pa_26 d_Pa_parse_10 fS (by rfl) (by rfl) (by rfl) (Nat.le_of_ble_eq_true rfl) (by rfl) (fun h2 u2 => ?_)
  have fP := xUp_ne u2 fP (by first | assumption | exact Ne.symm (by assumption) | exact x_ne fP fS (by simp))
  have fT := xUp_ne u2 fT (by first | assumption | exact Ne.symm (by assumption) | exact x_ne fT fS (by simp))
  have fkr := xUp_ne u2 fkr (by first | assumption | exact Ne.symm (by assumption) | exact x_ne fkr fS (by simp))
  have fnr := xUp_ne u2 fnr (by first | assumption | exact Ne.symm (by assumption) | exact x_ne fnr fS (by simp))
  have fnb := xUp_ne u2 fnb (by first | assumption | exact Ne.symm (by assumption) | exact x_ne fnb fS (by simp))
  have fpk := xUp_ne u2 fpk (by first | assumption | exact Ne.symm (by assumption) | exact x_ne fpk fS (by simp))
  have fcd := xUp_ne u2 fcd (by first | assumption | exact Ne.symm (by assumption) | exact x_ne fcd fS (by simp))
  have fS := xUp_at u2
  have kp := kp.up u2 (by simp)
  refine x_iconst (v := 0) C d_Pa_parse_13 (by decide) ?_
  refine x_istore_n (lv' := [(1, _), (0, _)]) C d_Pa_parse_14 rfl (by decide) (by rfl) ?_
  refine x_aload_n C d_Pa_parse_15 rfl rfl ?_
  refine x_get C k_Pa f_Pa_12 d_Pa_parse_16 fP (by rfl) ?_
  refine x_get C k_St f_Pa_26 d_Pa_parse_19 fS (by rfl) ?_
  rcases sw4 (if tW ks ns n 0 0 3 = true then ns 0 else -1) with e0 | e1 | e2 | e3 | q22
  · skip
    obtain ⟨hW, hv⟩ := tp_vb e0 (by decide)
    rw [e0]
    rw [e0] at fS
    have hP := tp_0 hW hv
    rw [if_pos hW] at fP
    refine x_tabIn (tgt := 52) C d_Pa_parse_22 (by decide) (by decide) (by rfl) rfl ?_
    refine x_aload_n C d_Pa_parse_52 rfl rfl ?_
    refine x_callV C l_Pa_30 v_Pa_takeFirstTable d_Pa_parse_53 (m_Pa_takeFirstTable (p := 1) fP ⟨fT, fkr, fnr, hkn, hn60⟩ (by omega) fS) fP rfl (by rfl) (by rfl) (by decide) (by decide) (Nat.le_of_ble_eq_true rfl) ?_
    rintro v3 h3 ⟨rfl, fP', fS', kp3⟩
    have fT := kp3.get fT (nm_c (by first | assumption | exact Ne.symm (by assumption) | exact x_ne fT fP (by simp)) (nm_c (by first | assumption | exact Ne.symm (by assumption) | exact x_ne fT fS (by simp)) nm_n))
    have fkr := kp3.get fkr (nm_c (by first | assumption | exact Ne.symm (by assumption) | exact x_ne fkr fP (by simp)) (nm_c (by first | assumption | exact Ne.symm (by assumption) | exact x_ne fkr fS (by simp)) nm_n))
    have fnr := kp3.get fnr (nm_c (by first | assumption | exact Ne.symm (by assumption) | exact x_ne fnr fP (by simp)) (nm_c (by first | assumption | exact Ne.symm (by assumption) | exact x_ne fnr fS (by simp)) nm_n))
    have fnb := kp3.get fnb (nm_c (by first | assumption | exact Ne.symm (by assumption) | exact x_ne fnb fP (by simp)) (nm_c (by first | assumption | exact Ne.symm (by assumption) | exact x_ne fnb fS (by simp)) nm_n))
    have fpk := kp3.get fpk (nm_c (by first | assumption | exact Ne.symm (by assumption) | exact x_ne fpk fP (by simp)) (nm_c (by first | assumption | exact Ne.symm (by assumption) | exact x_ne fpk fS (by simp)) nm_n))
    have fcd := kp3.get fcd (nm_c (by first | assumption | exact Ne.symm (by assumption) | exact x_ne fcd fP (by simp)) (nm_c (by first | assumption | exact Ne.symm (by assumption) | exact x_ne fcd fS (by simp)) nm_n))
    have kp := kp.call kp3 (kc_c (Or.inl (by simp)) (kc_c (Or.inl (by simp)) kc_n))
    have fP := fP'
    have fS := fS'
    rw [show (!decide ((if tK ks n 1 1 = true then ns 1 else -1) = -1)) = tFT ks ns n 1 from rfl]
    refine x_if_eq (tgt := 70) C d_Pa_parse_56 rfl (fun q56 => ?_) (fun q56 => ?_)
    · skip
      replace q56 := bI_f q56
      rw [if_neg (by rw [q56]; decide)] at hP
      refine x_iconst (v := 0) C d_Pa_parse_70 (by decide) ?_
      refine x_istore_n (lv' := [(1, _), (0, _)]) C d_Pa_parse_71 rfl (by decide) (by rfl) ?_
      refine x_goto (tgt := 158) C d_Pa_parse_72 rfl ?_
      refine x_iload_n C d_Pa_parse_158 rfl rfl ?_
      refine x_if_eq (tgt := 183) C d_Pa_parse_159 rfl (fun q159 => ?_) (fun q159 => ?_)
      · skip
        refine x_null C d_Pa_parse_183 ?_
        refine x_aretN C d_Pa_parse_184 ?_
        exact Or.inl ⟨hP, rfl, kp⟩
      · skip
        exact absurd q159 (by decide)
    · skip
      replace q56 := bI_t q56
      rw [if_pos q56] at hP
      have hft := tFT_iff.mp q56
      rw [if_pos hft.1] at fP fS
      have hl1 := (tK_iff.mp hft.1).1
      refine x_aload_n C d_Pa_parse_59 rfl rfl ?_
      refine x_callV C l_Pa_34 v_Pa_takeNumber d_Pa_parse_60 (m_Pa_takeNumber (p := 2) (nc := 0) fP ⟨fT, fkr, fnr, hkn, hn60⟩ (by omega) fS fnb (by decide)) fP rfl (by rfl) (by rfl) (by decide) (by decide) (Nat.le_of_ble_eq_true rfl) ?_
      rintro v4 h4 ⟨rfl, fP', fS', fnb', kp4⟩
      have fT := kp4.get fT (nm_c (by first | assumption | exact Ne.symm (by assumption) | exact x_ne fT fP (by simp)) (nm_c (by first | assumption | exact Ne.symm (by assumption) | exact x_ne fT fS (by simp)) (nm_c (by first | assumption | exact Ne.symm (by assumption) | exact x_ne fT fnb (by simp)) nm_n)))
      have fkr := kp4.get fkr (nm_c (by first | assumption | exact Ne.symm (by assumption) | exact x_ne fkr fP (by simp)) (nm_c (by first | assumption | exact Ne.symm (by assumption) | exact x_ne fkr fS (by simp)) (nm_c (by first | assumption | exact Ne.symm (by assumption) | exact x_ne fkr fnb (by simp)) nm_n)))
      have fnr := kp4.get fnr (nm_c (by first | assumption | exact Ne.symm (by assumption) | exact x_ne fnr fP (by simp)) (nm_c (by first | assumption | exact Ne.symm (by assumption) | exact x_ne fnr fS (by simp)) (nm_c (by first | assumption | exact Ne.symm (by assumption) | exact x_ne fnr fnb (by simp)) nm_n)))
      have fpk := kp4.get fpk (nm_c (by first | assumption | exact Ne.symm (by assumption) | exact x_ne fpk fP (by simp)) (nm_c (by first | assumption | exact Ne.symm (by assumption) | exact x_ne fpk fS (by simp)) (nm_c (by first | assumption | exact Ne.symm (by assumption) | exact x_ne fpk fnb (by simp)) nm_n)))
      have fcd := kp4.get fcd (nm_c (by first | assumption | exact Ne.symm (by assumption) | exact x_ne fcd fP (by simp)) (nm_c (by first | assumption | exact Ne.symm (by assumption) | exact x_ne fcd fS (by simp)) (nm_c (by first | assumption | exact Ne.symm (by assumption) | exact x_ne fcd fnb (by simp)) nm_n)))
      have kp := kp.call kp4 (kc_c (Or.inl (by simp)) (kc_c (Or.inl (by simp)) (kc_c (Or.inl (by simp)) kc_n)))
      have fP := fP'
      have fS := fS'
      have fnb := fnb'
      refine x_if_eq (tgt := 70) C d_Pa_parse_63 rfl (fun q63 => ?_) (fun q63 => ?_)
      · skip
        replace q63 := bI_f q63
        rw [if_neg (by rw [q63]; decide)] at hP
        refine x_iconst (v := 0) C d_Pa_parse_70 (by decide) ?_
        refine x_istore_n (lv' := [(1, _), (0, _)]) C d_Pa_parse_71 rfl (by decide) (by rfl) ?_
        refine x_goto (tgt := 158) C d_Pa_parse_72 rfl ?_
        refine x_iload_n C d_Pa_parse_158 rfl rfl ?_
        refine x_if_eq (tgt := 183) C d_Pa_parse_159 rfl (fun q159 => ?_) (fun q159 => ?_)
        · skip
          refine x_null C d_Pa_parse_183 ?_
          refine x_aretN C d_Pa_parse_184 ?_
          exact Or.inl ⟨hP, rfl, kp⟩
        · skip
          exact absurd q159 (by decide)
      · skip
        replace q63 := bI_t q63
        rw [if_pos q63] at hP fP fS fnb
        refine x_iconst (v := 1) C d_Pa_parse_66 (by decide) ?_
        refine x_goto (tgt := 71) C d_Pa_parse_67 rfl ?_
        refine x_istore_n (lv' := [(1, _), (0, _)]) C d_Pa_parse_71 rfl (by decide) (by rfl) ?_
        refine x_goto (tgt := 158) C d_Pa_parse_72 rfl ?_
        refine x_iload_n C d_Pa_parse_158 rfl rfl ?_
        refine x_if_eq (tgt := 183) C d_Pa_parse_159 rfl (fun q159 => ?_) (fun q159 => ?_)
        · skip
          exact absurd q159 (by decide)
        · skip
          refine x_aload_n C d_Pa_parse_162 rfl rfl ?_
          refine x_get C k_Pa f_Pa_52 d_Pa_parse_163 fP (by rfl) ?_
          refine x_aload_n C d_Pa_parse_166 rfl rfl ?_
          refine x_get C k_Pa f_Pa_18 d_Pa_parse_167 fP (by rfl) ?_
          refine x_get C k_To f_Pa_55 d_Pa_parse_170 fT (by rfl) ?_
          refine x_icmp_ne (tgt := 183) C d_Pa_parse_173 rfl (fun q173 => ?_) (fun q173 => ?_)
          · skip
            first | rw [if_neg (c := 3 = n) (fun z => q173 (congrArg nI z))] at hP | rw [if_neg (c := 2 + tRun ks n 3 60 2 = n) (fun z => q173 (congrArg nI z))] at hP | rw [if_neg (c := 2 + 4 * k = n) (fun z => q173 (congrArg nI z))] at hP | rw [if_neg (c := tEnd ks ns n (tB ks n q + 4 * k) = n) (fun z => q173 (congrArg nI z))] at hP
            refine x_null C d_Pa_parse_183 ?_
            refine x_aretN C d_Pa_parse_184 ?_
            exact Or.inl ⟨hP, rfl, kp⟩
          · skip
            have hend := (nI_eq (by first | omega | (have := hend60; unfold tEnd at this; omega)) (by omega)).mp q173
            first | rw [if_pos (show 3 = n from hend)] at hP | rw [if_pos (show 2 + tRun ks n 3 60 2 = n from hend)] at hP | rw [if_pos (show 2 + 4 * k = n from hend)] at hP | rw [if_pos (show tEnd ks ns n (tB ks n q + 4 * k) = n from hend)] at hP
            refine x_aload_n C d_Pa_parse_176 rfl rfl ?_
            refine x_get C k_Pa f_Pa_12 d_Pa_parse_177 fP (by rfl) ?_
            refine x_goto (tgt := 184) C d_Pa_parse_180 rfl ?_
            refine x_aret C d_Pa_parse_184 ?_
            refine Or.inr ⟨_, hP, rfl, kp, _, _, _, (fun _ => 0), (fun _ => cdAt ks ns 0), fS, fnb, (fun j h1 h2 => ?_), fpk, lt_0, lt_0, Nat.zero_le _, fcd, lt_0, lt_0, Nat.zero_le _⟩
            have h1 : j < 1 := h1
            have hj : j = 0 := by omega
            subst hj
            rw [if_pos (by decide)]
            exact pk_us
  · skip
    obtain ⟨hW, hv⟩ := tp_vb e1 (by decide)
    rw [e1]
    rw [e1] at fS
    have hP := tp_1 hW hv
    rw [if_pos hW] at fP
    refine x_tabIn (tgt := 75) C d_Pa_parse_22 (by decide) (by decide) (by rfl) rfl ?_
    refine x_aload_n C d_Pa_parse_75 rfl rfl ?_
    refine x_callV C l_Pa_30 v_Pa_takeFirstTable d_Pa_parse_76 (m_Pa_takeFirstTable (p := 1) fP ⟨fT, fkr, fnr, hkn, hn60⟩ (by omega) fS) fP rfl (by rfl) (by rfl) (by decide) (by decide) (Nat.le_of_ble_eq_true rfl) ?_
    rintro v5 h5 ⟨rfl, fP', fS', kp5⟩
    have fT := kp5.get fT (nm_c (by first | assumption | exact Ne.symm (by assumption) | exact x_ne fT fP (by simp)) (nm_c (by first | assumption | exact Ne.symm (by assumption) | exact x_ne fT fS (by simp)) nm_n))
    have fkr := kp5.get fkr (nm_c (by first | assumption | exact Ne.symm (by assumption) | exact x_ne fkr fP (by simp)) (nm_c (by first | assumption | exact Ne.symm (by assumption) | exact x_ne fkr fS (by simp)) nm_n))
    have fnr := kp5.get fnr (nm_c (by first | assumption | exact Ne.symm (by assumption) | exact x_ne fnr fP (by simp)) (nm_c (by first | assumption | exact Ne.symm (by assumption) | exact x_ne fnr fS (by simp)) nm_n))
    have fnb := kp5.get fnb (nm_c (by first | assumption | exact Ne.symm (by assumption) | exact x_ne fnb fP (by simp)) (nm_c (by first | assumption | exact Ne.symm (by assumption) | exact x_ne fnb fS (by simp)) nm_n))
    have fpk := kp5.get fpk (nm_c (by first | assumption | exact Ne.symm (by assumption) | exact x_ne fpk fP (by simp)) (nm_c (by first | assumption | exact Ne.symm (by assumption) | exact x_ne fpk fS (by simp)) nm_n))
    have fcd := kp5.get fcd (nm_c (by first | assumption | exact Ne.symm (by assumption) | exact x_ne fcd fP (by simp)) (nm_c (by first | assumption | exact Ne.symm (by assumption) | exact x_ne fcd fS (by simp)) nm_n))
    have kp := kp.call kp5 (kc_c (Or.inl (by simp)) (kc_c (Or.inl (by simp)) kc_n))
    have fP := fP'
    have fS := fS'
    rw [show (!decide ((if tK ks n 1 1 = true then ns 1 else -1) = -1)) = tFT ks ns n 1 from rfl]
    refine x_if_eq (tgt := 93) C d_Pa_parse_79 rfl (fun q79 => ?_) (fun q79 => ?_)
    · skip
      replace q79 := bI_f q79
      rw [if_neg (by rw [q79]; decide)] at hP
      refine x_iconst (v := 0) C d_Pa_parse_93 (by decide) ?_
      refine x_istore_n (lv' := [(1, _), (0, _)]) C d_Pa_parse_94 rfl (by decide) (by rfl) ?_
      refine x_goto (tgt := 158) C d_Pa_parse_95 rfl ?_
      refine x_iload_n C d_Pa_parse_158 rfl rfl ?_
      refine x_if_eq (tgt := 183) C d_Pa_parse_159 rfl (fun q159 => ?_) (fun q159 => ?_)
      · skip
        refine x_null C d_Pa_parse_183 ?_
        refine x_aretN C d_Pa_parse_184 ?_
        exact Or.inl ⟨hP, rfl, kp⟩
      · skip
        exact absurd q159 (by decide)
    · skip
      replace q79 := bI_t q79
      rw [if_pos q79] at hP
      have hft := tFT_iff.mp q79
      rw [if_pos hft.1] at fP fS
      have hl1 := (tK_iff.mp hft.1).1
      refine x_aload_n C d_Pa_parse_82 rfl rfl ?_
      refine x_callV C l_Pa_37 v_Pa_takeNumbers d_Pa_parse_83 (m_Pa_takeNumbers (p := 2) (r := tRun ks n 3 60 2) fP ⟨fT, fkr, fnr, hkn, hn60⟩ (by omega) fS fnb rfl) fP rfl (by rfl) (by rfl) (by decide) (by decide) (Nat.le_of_ble_eq_true rfl) ?_
      rintro v6 h6 ⟨g', rfl, fP', fS', fnb', hg', hrn, kp6⟩
      have fT := kp6.get fT (nm_c (by first | assumption | exact Ne.symm (by assumption) | exact x_ne fT fP (by simp)) (nm_c (by first | assumption | exact Ne.symm (by assumption) | exact x_ne fT fS (by simp)) (nm_c (by first | assumption | exact Ne.symm (by assumption) | exact x_ne fT fnb (by simp)) nm_n)))
      have fkr := kp6.get fkr (nm_c (by first | assumption | exact Ne.symm (by assumption) | exact x_ne fkr fP (by simp)) (nm_c (by first | assumption | exact Ne.symm (by assumption) | exact x_ne fkr fS (by simp)) (nm_c (by first | assumption | exact Ne.symm (by assumption) | exact x_ne fkr fnb (by simp)) nm_n)))
      have fnr := kp6.get fnr (nm_c (by first | assumption | exact Ne.symm (by assumption) | exact x_ne fnr fP (by simp)) (nm_c (by first | assumption | exact Ne.symm (by assumption) | exact x_ne fnr fS (by simp)) (nm_c (by first | assumption | exact Ne.symm (by assumption) | exact x_ne fnr fnb (by simp)) nm_n)))
      have fpk := kp6.get fpk (nm_c (by first | assumption | exact Ne.symm (by assumption) | exact x_ne fpk fP (by simp)) (nm_c (by first | assumption | exact Ne.symm (by assumption) | exact x_ne fpk fS (by simp)) (nm_c (by first | assumption | exact Ne.symm (by assumption) | exact x_ne fpk fnb (by simp)) nm_n)))
      have fcd := kp6.get fcd (nm_c (by first | assumption | exact Ne.symm (by assumption) | exact x_ne fcd fP (by simp)) (nm_c (by first | assumption | exact Ne.symm (by assumption) | exact x_ne fcd fS (by simp)) (nm_c (by first | assumption | exact Ne.symm (by assumption) | exact x_ne fcd fnb (by simp)) nm_n)))
      have kp := kp.call kp6 (kc_c (Or.inl (by simp)) (kc_c (Or.inl (by simp)) (kc_c (Or.inl (by simp)) kc_n)))
      have fP := fP'
      have fS := fS'
      have fnb := fnb'
      refine x_if_eq (tgt := 93) C d_Pa_parse_86 rfl (fun q86 => ?_) (fun q86 => ?_)
      · skip
        replace q86 := bI_f q86
        rw [if_neg (by simpa using q86)] at hP
        refine x_iconst (v := 0) C d_Pa_parse_93 (by decide) ?_
        refine x_istore_n (lv' := [(1, _), (0, _)]) C d_Pa_parse_94 rfl (by decide) (by rfl) ?_
        refine x_goto (tgt := 158) C d_Pa_parse_95 rfl ?_
        refine x_iload_n C d_Pa_parse_158 rfl rfl ?_
        refine x_if_eq (tgt := 183) C d_Pa_parse_159 rfl (fun q159 => ?_) (fun q159 => ?_)
        · skip
          refine x_null C d_Pa_parse_183 ?_
          refine x_aretN C d_Pa_parse_184 ?_
          exact Or.inl ⟨hP, rfl, kp⟩
        · skip
          exact absurd q159 (by decide)
      · skip
        replace q86 := bI_t q86
        have hr0 : 0 < tRun ks n 3 60 2 := by simpa using q86
        rw [if_pos hr0] at hP
        refine x_iconst (v := 1) C d_Pa_parse_89 (by decide) ?_
        refine x_goto (tgt := 94) C d_Pa_parse_90 rfl ?_
        refine x_istore_n (lv' := [(1, _), (0, _)]) C d_Pa_parse_94 rfl (by decide) (by rfl) ?_
        refine x_goto (tgt := 158) C d_Pa_parse_95 rfl ?_
        refine x_iload_n C d_Pa_parse_158 rfl rfl ?_
        refine x_if_eq (tgt := 183) C d_Pa_parse_159 rfl (fun q159 => ?_) (fun q159 => ?_)
        · skip
          exact absurd q159 (by decide)
        · skip
          refine x_aload_n C d_Pa_parse_162 rfl rfl ?_
          refine x_get C k_Pa f_Pa_52 d_Pa_parse_163 fP (by rfl) ?_
          refine x_aload_n C d_Pa_parse_166 rfl rfl ?_
          refine x_get C k_Pa f_Pa_18 d_Pa_parse_167 fP (by rfl) ?_
          refine x_get C k_To f_Pa_55 d_Pa_parse_170 fT (by rfl) ?_
          refine x_icmp_ne (tgt := 183) C d_Pa_parse_173 rfl (fun q173 => ?_) (fun q173 => ?_)
          · skip
            first | rw [if_neg (c := 3 = n) (fun z => q173 (congrArg nI z))] at hP | rw [if_neg (c := 2 + tRun ks n 3 60 2 = n) (fun z => q173 (congrArg nI z))] at hP | rw [if_neg (c := 2 + 4 * k = n) (fun z => q173 (congrArg nI z))] at hP | rw [if_neg (c := tEnd ks ns n (tB ks n q + 4 * k) = n) (fun z => q173 (congrArg nI z))] at hP
            refine x_null C d_Pa_parse_183 ?_
            refine x_aretN C d_Pa_parse_184 ?_
            exact Or.inl ⟨hP, rfl, kp⟩
          · skip
            have hend := (nI_eq (by first | omega | (have := hend60; unfold tEnd at this; omega)) (by omega)).mp q173
            first | rw [if_pos (show 3 = n from hend)] at hP | rw [if_pos (show 2 + tRun ks n 3 60 2 = n from hend)] at hP | rw [if_pos (show 2 + 4 * k = n from hend)] at hP | rw [if_pos (show tEnd ks ns n (tB ks n q + 4 * k) = n from hend)] at hP
            refine x_aload_n C d_Pa_parse_176 rfl rfl ?_
            refine x_get C k_Pa f_Pa_12 d_Pa_parse_177 fP (by rfl) ?_
            refine x_goto (tgt := 184) C d_Pa_parse_180 rfl ?_
            refine x_aret C d_Pa_parse_184 ?_
            exact Or.inr ⟨_, hP, rfl, kp, _, _, _, (fun _ => 0), (fun _ => cdAt ks ns 0), fS, fnb, hg', fpk, lt_0, lt_0, Nat.zero_le _, fcd, lt_0, lt_0, Nat.zero_le _⟩
  · skip
    obtain ⟨hW, hv⟩ := tp_vb e2 (by decide)
    rw [e2]
    rw [e2] at fS
    have hP := tp_2 hW hv
    rw [if_pos hW] at fP
    refine x_tabIn (tgt := 98) C d_Pa_parse_22 (by decide) (by decide) (by rfl) rfl ?_
    refine x_aload_n C d_Pa_parse_98 rfl rfl ?_
    refine x_callV C l_Pa_30 v_Pa_takeFirstTable d_Pa_parse_99 (m_Pa_takeFirstTable (p := 1) fP ⟨fT, fkr, fnr, hkn, hn60⟩ (by omega) fS) fP rfl (by rfl) (by rfl) (by decide) (by decide) (Nat.le_of_ble_eq_true rfl) ?_
    rintro v7 h7 ⟨rfl, fP', fS', kp7⟩
    have fT := kp7.get fT (nm_c (by first | assumption | exact Ne.symm (by assumption) | exact x_ne fT fP (by simp)) (nm_c (by first | assumption | exact Ne.symm (by assumption) | exact x_ne fT fS (by simp)) nm_n))
    have fkr := kp7.get fkr (nm_c (by first | assumption | exact Ne.symm (by assumption) | exact x_ne fkr fP (by simp)) (nm_c (by first | assumption | exact Ne.symm (by assumption) | exact x_ne fkr fS (by simp)) nm_n))
    have fnr := kp7.get fnr (nm_c (by first | assumption | exact Ne.symm (by assumption) | exact x_ne fnr fP (by simp)) (nm_c (by first | assumption | exact Ne.symm (by assumption) | exact x_ne fnr fS (by simp)) nm_n))
    have fnb := kp7.get fnb (nm_c (by first | assumption | exact Ne.symm (by assumption) | exact x_ne fnb fP (by simp)) (nm_c (by first | assumption | exact Ne.symm (by assumption) | exact x_ne fnb fS (by simp)) nm_n))
    have fpk := kp7.get fpk (nm_c (by first | assumption | exact Ne.symm (by assumption) | exact x_ne fpk fP (by simp)) (nm_c (by first | assumption | exact Ne.symm (by assumption) | exact x_ne fpk fS (by simp)) nm_n))
    have fcd := kp7.get fcd (nm_c (by first | assumption | exact Ne.symm (by assumption) | exact x_ne fcd fP (by simp)) (nm_c (by first | assumption | exact Ne.symm (by assumption) | exact x_ne fcd fS (by simp)) nm_n))
    have kp := kp.call kp7 (kc_c (Or.inl (by simp)) (kc_c (Or.inl (by simp)) kc_n))
    have fP := fP'
    have fS := fS'
    rw [show (!decide ((if tK ks n 1 1 = true then ns 1 else -1) = -1)) = tFT ks ns n 1 from rfl]
    refine x_if_eq (tgt := 116) C d_Pa_parse_102 rfl (fun q102 => ?_) (fun q102 => ?_)
    · skip
      replace q102 := bI_f q102
      rw [if_neg (by rw [q102]; decide)] at hP
      refine x_iconst (v := 0) C d_Pa_parse_116 (by decide) ?_
      refine x_istore_n (lv' := [(1, _), (0, _)]) C d_Pa_parse_117 rfl (by decide) (by rfl) ?_
      refine x_goto (tgt := 158) C d_Pa_parse_118 rfl ?_
      refine x_iload_n C d_Pa_parse_158 rfl rfl ?_
      refine x_if_eq (tgt := 183) C d_Pa_parse_159 rfl (fun q159 => ?_) (fun q159 => ?_)
      · skip
        refine x_null C d_Pa_parse_183 ?_
        refine x_aretN C d_Pa_parse_184 ?_
        exact Or.inl ⟨hP, rfl, kp⟩
      · skip
        exact absurd q159 (by decide)
    · skip
      replace q102 := bI_t q102
      rw [if_pos q102] at hP
      have hft := tFT_iff.mp q102
      rw [if_pos hft.1] at fP fS
      have hl1 := (tK_iff.mp hft.1).1
      refine x_aload_n C d_Pa_parse_105 rfl rfl ?_
      refine x_callV C l_Pa_40 v_Pa_takeConditions d_Pa_parse_106 (m_Pa_takeConditions (p := 2) (tc := tConds ks ns n 8 8 2) fP ⟨fT, fkr, fnr, hkn, hn60⟩ (by omega) fS fcd rfl) fP rfl (by rfl) (by rfl) (by decide) (by decide) (Nat.le_of_ble_eq_true rfl) ?_
      rintro v8 h8 (⟨k, co2, hT, rfl, fP', fS', fcd', pC, hk8, hk60, kp8⟩ | ⟨hT, rfl, kp8⟩)
      · skip
        have fT := kp8.get fT (nm_c (by first | assumption | exact Ne.symm (by assumption) | exact x_ne fT fP (by simp)) (nm_c (by first | assumption | exact Ne.symm (by assumption) | exact x_ne fT fS (by simp)) (nm_c (by first | assumption | exact Ne.symm (by assumption) | exact x_ne fT fcd (by simp)) nm_n)))
        have fkr := kp8.get fkr (nm_c (by first | assumption | exact Ne.symm (by assumption) | exact x_ne fkr fP (by simp)) (nm_c (by first | assumption | exact Ne.symm (by assumption) | exact x_ne fkr fS (by simp)) (nm_c (by first | assumption | exact Ne.symm (by assumption) | exact x_ne fkr fcd (by simp)) nm_n)))
        have fnr := kp8.get fnr (nm_c (by first | assumption | exact Ne.symm (by assumption) | exact x_ne fnr fP (by simp)) (nm_c (by first | assumption | exact Ne.symm (by assumption) | exact x_ne fnr fS (by simp)) (nm_c (by first | assumption | exact Ne.symm (by assumption) | exact x_ne fnr fcd (by simp)) nm_n)))
        have fnb := kp8.get fnb (nm_c (by first | assumption | exact Ne.symm (by assumption) | exact x_ne fnb fP (by simp)) (nm_c (by first | assumption | exact Ne.symm (by assumption) | exact x_ne fnb fS (by simp)) (nm_c (by first | assumption | exact Ne.symm (by assumption) | exact x_ne fnb fcd (by simp)) nm_n)))
        have fpk := kp8.get fpk (nm_c (by first | assumption | exact Ne.symm (by assumption) | exact x_ne fpk fP (by simp)) (nm_c (by first | assumption | exact Ne.symm (by assumption) | exact x_ne fpk fS (by simp)) (nm_c (by first | assumption | exact Ne.symm (by assumption) | exact x_ne fpk fcd (by simp)) nm_n)))
        have kp := kp.call kp8 (kc_c (Or.inl (by simp)) (kc_c (Or.inl (by simp)) (kc_c (Or.inl (by simp)) kc_n)))
        have fP := fP'
        have fS := fS'
        have fcd := fcd'
        rw [hT] at hP
        replace hP : tParse ks ns n = if 2 + 4 * k = n then some ((2, -1, ns 1, -1, false), (0, 0, 0, k, 2)) else none := hP
        refine x_if_eq (tgt := 116) C d_Pa_parse_109 rfl (fun q109 => ?_) (fun q109 => ?_)
        · skip
          exact absurd q109 (by decide)
        · skip
          refine x_iconst (v := 1) C d_Pa_parse_112 (by decide) ?_
          refine x_goto (tgt := 117) C d_Pa_parse_113 rfl ?_
          refine x_istore_n (lv' := [(1, _), (0, _)]) C d_Pa_parse_117 rfl (by decide) (by rfl) ?_
          refine x_goto (tgt := 158) C d_Pa_parse_118 rfl ?_
          refine x_iload_n C d_Pa_parse_158 rfl rfl ?_
          refine x_if_eq (tgt := 183) C d_Pa_parse_159 rfl (fun q159 => ?_) (fun q159 => ?_)
          · skip
            exact absurd q159 (by decide)
          · skip
            refine x_aload_n C d_Pa_parse_162 rfl rfl ?_
            refine x_get C k_Pa f_Pa_52 d_Pa_parse_163 fP (by rfl) ?_
            refine x_aload_n C d_Pa_parse_166 rfl rfl ?_
            refine x_get C k_Pa f_Pa_18 d_Pa_parse_167 fP (by rfl) ?_
            refine x_get C k_To f_Pa_55 d_Pa_parse_170 fT (by rfl) ?_
            refine x_icmp_ne (tgt := 183) C d_Pa_parse_173 rfl (fun q173 => ?_) (fun q173 => ?_)
            · skip
              first | rw [if_neg (c := 3 = n) (fun z => q173 (congrArg nI z))] at hP | rw [if_neg (c := 2 + tRun ks n 3 60 2 = n) (fun z => q173 (congrArg nI z))] at hP | rw [if_neg (c := 2 + 4 * k = n) (fun z => q173 (congrArg nI z))] at hP | rw [if_neg (c := tEnd ks ns n (tB ks n q + 4 * k) = n) (fun z => q173 (congrArg nI z))] at hP
              refine x_null C d_Pa_parse_183 ?_
              refine x_aretN C d_Pa_parse_184 ?_
              exact Or.inl ⟨hP, rfl, kp⟩
            · skip
              have hend := (nI_eq (by first | omega | (have := hend60; unfold tEnd at this; omega)) (by omega)).mp q173
              first | rw [if_pos (show 3 = n from hend)] at hP | rw [if_pos (show 2 + tRun ks n 3 60 2 = n from hend)] at hP | rw [if_pos (show 2 + 4 * k = n from hend)] at hP | rw [if_pos (show tEnd ks ns n (tB ks n q + 4 * k) = n from hend)] at hP
              refine x_aload_n C d_Pa_parse_176 rfl rfl ?_
              refine x_get C k_Pa f_Pa_12 d_Pa_parse_177 fP (by rfl) ?_
              refine x_goto (tgt := 184) C d_Pa_parse_180 rfl ?_
              refine x_aret C d_Pa_parse_184 ?_
              exact Or.inr ⟨_, hP, rfl, kp, _, _, _, (fun _ => 0), _, fS, fnb, (fun j h1 h2 => absurd (show j < 0 from h1) (by omega)), fpk, lt_0, lt_0, Nat.zero_le _, fcd, pC, (fun _ _ => rfl), hk8⟩
      · skip
        have fT := kp8.get fT (nm_c (by first | assumption | exact Ne.symm (by assumption) | exact x_ne fT fP (by simp)) (nm_c (by first | assumption | exact Ne.symm (by assumption) | exact x_ne fT fS (by simp)) (nm_c (by first | assumption | exact Ne.symm (by assumption) | exact x_ne fT fcd (by simp)) nm_n)))
        have fkr := kp8.get fkr (nm_c (by first | assumption | exact Ne.symm (by assumption) | exact x_ne fkr fP (by simp)) (nm_c (by first | assumption | exact Ne.symm (by assumption) | exact x_ne fkr fS (by simp)) (nm_c (by first | assumption | exact Ne.symm (by assumption) | exact x_ne fkr fcd (by simp)) nm_n)))
        have fnr := kp8.get fnr (nm_c (by first | assumption | exact Ne.symm (by assumption) | exact x_ne fnr fP (by simp)) (nm_c (by first | assumption | exact Ne.symm (by assumption) | exact x_ne fnr fS (by simp)) (nm_c (by first | assumption | exact Ne.symm (by assumption) | exact x_ne fnr fcd (by simp)) nm_n)))
        have fnb := kp8.get fnb (nm_c (by first | assumption | exact Ne.symm (by assumption) | exact x_ne fnb fP (by simp)) (nm_c (by first | assumption | exact Ne.symm (by assumption) | exact x_ne fnb fS (by simp)) (nm_c (by first | assumption | exact Ne.symm (by assumption) | exact x_ne fnb fcd (by simp)) nm_n)))
        have fpk := kp8.get fpk (nm_c (by first | assumption | exact Ne.symm (by assumption) | exact x_ne fpk fP (by simp)) (nm_c (by first | assumption | exact Ne.symm (by assumption) | exact x_ne fpk fS (by simp)) (nm_c (by first | assumption | exact Ne.symm (by assumption) | exact x_ne fpk fcd (by simp)) nm_n)))
        have kp := kp.call kp8 (kc_c (Or.inl (by simp)) (kc_c (Or.inl (by simp)) (kc_c (Or.inl (by simp)) kc_n)))
        rw [hT] at hP
        replace hP : tParse ks ns n = none := hP
        refine x_if_eq (tgt := 116) C d_Pa_parse_109 rfl (fun q109 => ?_) (fun q109 => ?_)
        · skip
          refine x_iconst (v := 0) C d_Pa_parse_116 (by decide) ?_
          refine x_istore_n (lv' := [(1, _), (0, _)]) C d_Pa_parse_117 rfl (by decide) (by rfl) ?_
          refine x_goto (tgt := 158) C d_Pa_parse_118 rfl ?_
          refine x_iload_n C d_Pa_parse_158 rfl rfl ?_
          refine x_if_eq (tgt := 183) C d_Pa_parse_159 rfl (fun q159 => ?_) (fun q159 => ?_)
          · skip
            refine x_null C d_Pa_parse_183 ?_
            refine x_aretN C d_Pa_parse_184 ?_
            exact Or.inl ⟨hP, rfl, kp⟩
          · skip
            exact absurd q159 (by decide)
        · skip
          exact absurd q109 (by decide)
  · skip
    obtain ⟨hW, hv⟩ := tp_vb e3 (by decide)
    rw [e3]
    rw [e3] at fS
    have hP := tp_3 hW hv
    rw [if_pos hW] at fP
    refine x_tabIn (tgt := 121) C d_Pa_parse_22 (by decide) (by decide) (by rfl) rfl ?_
    refine x_aload_n C d_Pa_parse_121 rfl rfl ?_
    refine x_callV C l_Pa_43 v_Pa_takeList d_Pa_parse_122 (m_Pa_takeList (p := 1) fP ⟨fT, fkr, fnr, hkn, hn60⟩ (by omega) fS fpk) fP rfl (by rfl) (by rfl) (by decide) (by decide) (Nat.le_of_ble_eq_true rfl) ?_
    rintro v9 h9 ⟨ok, r, q, ls, rfl, hL, kp9, hok⟩
    have fT := kp9.get fT (nm_c (by first | assumption | exact Ne.symm (by assumption) | exact x_ne fT fP (by simp)) (nm_c (by first | assumption | exact Ne.symm (by assumption) | exact x_ne fT fS (by simp)) (nm_c (by first | assumption | exact Ne.symm (by assumption) | exact x_ne fT fpk (by simp)) nm_n)))
    have fkr := kp9.get fkr (nm_c (by first | assumption | exact Ne.symm (by assumption) | exact x_ne fkr fP (by simp)) (nm_c (by first | assumption | exact Ne.symm (by assumption) | exact x_ne fkr fS (by simp)) (nm_c (by first | assumption | exact Ne.symm (by assumption) | exact x_ne fkr fpk (by simp)) nm_n)))
    have fnr := kp9.get fnr (nm_c (by first | assumption | exact Ne.symm (by assumption) | exact x_ne fnr fP (by simp)) (nm_c (by first | assumption | exact Ne.symm (by assumption) | exact x_ne fnr fS (by simp)) (nm_c (by first | assumption | exact Ne.symm (by assumption) | exact x_ne fnr fpk (by simp)) nm_n)))
    have fnb := kp9.get fnb (nm_c (by first | assumption | exact Ne.symm (by assumption) | exact x_ne fnb fP (by simp)) (nm_c (by first | assumption | exact Ne.symm (by assumption) | exact x_ne fnb fS (by simp)) (nm_c (by first | assumption | exact Ne.symm (by assumption) | exact x_ne fnb fpk (by simp)) nm_n)))
    have fcd := kp9.get fcd (nm_c (by first | assumption | exact Ne.symm (by assumption) | exact x_ne fcd fP (by simp)) (nm_c (by first | assumption | exact Ne.symm (by assumption) | exact x_ne fcd fS (by simp)) (nm_c (by first | assumption | exact Ne.symm (by assumption) | exact x_ne fcd fpk (by simp)) nm_n)))
    have kp := kp.call kp9 (kc_c (Or.inl (by simp)) (kc_c (Or.inl (by simp)) (kc_c (Or.inl (by simp)) kc_n)))
    refine x_if_eq (tgt := 153) C d_Pa_parse_125 rfl (fun q125 => ?_) (fun q125 => ?_)
    · skip
      replace q125 := bI_f q125
      replace hP := hP.trans (tSel_eq hL)
      rw [if_neg (by rw [q125]; decide)] at hP
      refine x_iconst (v := 0) C d_Pa_parse_153 (by decide) ?_
      refine x_istore_n (lv' := [(1, _), (0, _)]) C d_Pa_parse_154 rfl (by decide) (by rfl) ?_
      refine x_goto (tgt := 158) C d_Pa_parse_155 rfl ?_
      refine x_iload_n C d_Pa_parse_158 rfl rfl ?_
      refine x_if_eq (tgt := 183) C d_Pa_parse_159 rfl (fun q159 => ?_) (fun q159 => ?_)
      · skip
        refine x_null C d_Pa_parse_183 ?_
        refine x_aretN C d_Pa_parse_184 ?_
        exact Or.inl ⟨hP, rfl, kp⟩
      · skip
        exact absurd q159 (by decide)
    · skip
      replace q125 := bI_t q125
      obtain ⟨hr8, hq60, fP, fS, po1, pick, fpk, pO, hpk⟩ := hok q125
      replace hP := hP.trans (tSel_eq hL)
      rw [if_pos q125] at hP
      refine x_aload_n C d_Pa_parse_128 rfl rfl ?_
      refine x_callV C l_Pa_46 v_Pa_takeFrom d_Pa_parse_129 (m_Pa_takeFrom (p := q) fP ⟨fT, fkr, fnr, hkn, hn60⟩ hq60 fS) fP rfl (by rfl) (by rfl) (by decide) (by decide) (Nat.le_of_ble_eq_true rfl) ?_
      rintro v10 h10 ⟨okf, rfl, kp10, hfi, hff⟩
      have fT := kp10.get fT (nm_c (by first | assumption | exact Ne.symm (by assumption) | exact x_ne fT fP (by simp)) (nm_c (by first | assumption | exact Ne.symm (by assumption) | exact x_ne fT fS (by simp)) nm_n))
      have fkr := kp10.get fkr (nm_c (by first | assumption | exact Ne.symm (by assumption) | exact x_ne fkr fP (by simp)) (nm_c (by first | assumption | exact Ne.symm (by assumption) | exact x_ne fkr fS (by simp)) nm_n))
      have fnr := kp10.get fnr (nm_c (by first | assumption | exact Ne.symm (by assumption) | exact x_ne fnr fP (by simp)) (nm_c (by first | assumption | exact Ne.symm (by assumption) | exact x_ne fnr fS (by simp)) nm_n))
      have fnb := kp10.get fnb (nm_c (by first | assumption | exact Ne.symm (by assumption) | exact x_ne fnb fP (by simp)) (nm_c (by first | assumption | exact Ne.symm (by assumption) | exact x_ne fnb fS (by simp)) nm_n))
      have fpk := kp10.get fpk (nm_c (by first | assumption | exact Ne.symm (by assumption) | exact x_ne fpk fP (by simp)) (nm_c (by first | assumption | exact Ne.symm (by assumption) | exact x_ne fpk fS (by simp)) nm_n))
      have fcd := kp10.get fcd (nm_c (by first | assumption | exact Ne.symm (by assumption) | exact x_ne fcd fP (by simp)) (nm_c (by first | assumption | exact Ne.symm (by assumption) | exact x_ne fcd fS (by simp)) nm_n))
      have kp := kp.call kp10 (kc_c (Or.inl (by simp)) (kc_c (Or.inl (by simp)) kc_n))
      have pO := pO.keep (kp10.ops (no_c fP rfl (no_c fS rfl no_n)))
      refine x_if_eq (tgt := 153) C d_Pa_parse_132 rfl (fun q132 => ?_) (fun q132 => ?_)
      · skip
        replace q132 := bI_f q132
        rw [if_neg (fun z => by rw [hfi.mpr z] at q132; cases q132)] at hP
        refine x_iconst (v := 0) C d_Pa_parse_153 (by decide) ?_
        refine x_istore_n (lv' := [(1, _), (0, _)]) C d_Pa_parse_154 rfl (by decide) (by rfl) ?_
        refine x_goto (tgt := 158) C d_Pa_parse_155 rfl ?_
        refine x_iload_n C d_Pa_parse_158 rfl rfl ?_
        refine x_if_eq (tgt := 183) C d_Pa_parse_159 rfl (fun q159 => ?_) (fun q159 => ?_)
        · skip
          refine x_null C d_Pa_parse_183 ?_
          refine x_aretN C d_Pa_parse_184 ?_
          exact Or.inl ⟨hP, rfl, kp⟩
        · skip
          exact absurd q159 (by decide)
      · skip
        replace q132 := bI_t q132
        have hf3 := hfi.mp q132
        obtain ⟨fP, fS⟩ := hff q132
        rw [if_pos hf3] at hP
        have hl1 := (tK_iff.mp hf3.2.1).1
        have hb60 : tB ks n q ≤ 60 := by
          unfold tB
          by_cases z : tK ks n (q + 2) 1 = true
          · have := (tK_iff.mp z).1; rw [if_pos z]; omega
          · rw [if_neg z]; omega
        have fP9 := fP
        have fS9 := fS
        have fcd9 := fcd
        refine x_aload_n C d_Pa_parse_135 rfl rfl ?_
        refine x_callV C l_Pa_40 v_Pa_takeConditions d_Pa_parse_136 (m_Pa_takeConditions (p := tB ks n q) (tc := tConds ks ns n 8 8 (tB ks n q)) fP ⟨fT, fkr, fnr, hkn, hn60⟩ hb60 fS fcd rfl) fP rfl (by rfl) (by rfl) (by decide) (by decide) (Nat.le_of_ble_eq_true rfl) ?_
        rintro v11 h11 (⟨k, co2, hT, rfl, fP', fS', fcd', pC, hk8, hk60, kp11⟩ | ⟨hT, rfl, kp11⟩)
        · skip
          have fT := kp11.get fT (nm_c (by first | assumption | exact Ne.symm (by assumption) | exact x_ne fT fP (by simp)) (nm_c (by first | assumption | exact Ne.symm (by assumption) | exact x_ne fT fS (by simp)) (nm_c (by first | assumption | exact Ne.symm (by assumption) | exact x_ne fT fcd (by simp)) nm_n)))
          have fkr := kp11.get fkr (nm_c (by first | assumption | exact Ne.symm (by assumption) | exact x_ne fkr fP (by simp)) (nm_c (by first | assumption | exact Ne.symm (by assumption) | exact x_ne fkr fS (by simp)) (nm_c (by first | assumption | exact Ne.symm (by assumption) | exact x_ne fkr fcd (by simp)) nm_n)))
          have fnr := kp11.get fnr (nm_c (by first | assumption | exact Ne.symm (by assumption) | exact x_ne fnr fP (by simp)) (nm_c (by first | assumption | exact Ne.symm (by assumption) | exact x_ne fnr fS (by simp)) (nm_c (by first | assumption | exact Ne.symm (by assumption) | exact x_ne fnr fcd (by simp)) nm_n)))
          have fnb := kp11.get fnb (nm_c (by first | assumption | exact Ne.symm (by assumption) | exact x_ne fnb fP (by simp)) (nm_c (by first | assumption | exact Ne.symm (by assumption) | exact x_ne fnb fS (by simp)) (nm_c (by first | assumption | exact Ne.symm (by assumption) | exact x_ne fnb fcd (by simp)) nm_n)))
          have fpk := kp11.get fpk (nm_c (by first | assumption | exact Ne.symm (by assumption) | exact x_ne fpk fP (by simp)) (nm_c (by first | assumption | exact Ne.symm (by assumption) | exact x_ne fpk fS (by simp)) (nm_c (by first | assumption | exact Ne.symm (by assumption) | exact x_ne fpk fcd (by simp)) nm_n)))
          have kp := kp.call kp11 (kc_c (Or.inl (by simp)) (kc_c (Or.inl (by simp)) (kc_c (Or.inl (by simp)) kc_n)))
          have fP := fP'
          have fS := fS'
          have fcd := fcd'
          have pO := pO.keep (kp11.ops (no_c fP9 rfl (no_c fS9 rfl (no_c fcd9 rfl no_n))))
          rw [hT] at hP
          replace hP : tParse ks ns n = if tEnd ks ns n (tB ks n q + 4 * k) = n then some (((3, ls, ns (q + 1), tT ks ns n (q + 2), tW ks ns n (tB ks n q + 4 * k) 13 13), (0, r, if ls = 6 then 2 else 1, k, tB ks n q)) : tD) else none := hP
          refine x_if_eq (tgt := 153) C d_Pa_parse_139 rfl (fun q139 => ?_) (fun q139 => ?_)
          · skip
            exact absurd q139 (by decide)
          · skip
            refine x_aload_n C d_Pa_parse_142 rfl rfl ?_
            refine x_callV C l_Pa_49 v_Pa_takeOrder d_Pa_parse_143 (m_Pa_takeOrder (p := tB ks n q + 4 * k) fP ⟨fT, fkr, fnr, hkn, hn60⟩ hk60 fS) fP rfl (by rfl) (by rfl) (by decide) (by decide) (Nat.le_of_ble_eq_true rfl) ?_
            rintro v12 h12 ⟨rfl, fP', fS', kp12⟩
            have fP8 := fP
            have fS8 := fS
            have fT := kp12.get fT (nm_c (by first | assumption | exact Ne.symm (by assumption) | exact x_ne fT fP (by simp)) (nm_c (by first | assumption | exact Ne.symm (by assumption) | exact x_ne fT fS (by simp)) nm_n))
            have fkr := kp12.get fkr (nm_c (by first | assumption | exact Ne.symm (by assumption) | exact x_ne fkr fP (by simp)) (nm_c (by first | assumption | exact Ne.symm (by assumption) | exact x_ne fkr fS (by simp)) nm_n))
            have fnr := kp12.get fnr (nm_c (by first | assumption | exact Ne.symm (by assumption) | exact x_ne fnr fP (by simp)) (nm_c (by first | assumption | exact Ne.symm (by assumption) | exact x_ne fnr fS (by simp)) nm_n))
            have fnb := kp12.get fnb (nm_c (by first | assumption | exact Ne.symm (by assumption) | exact x_ne fnb fP (by simp)) (nm_c (by first | assumption | exact Ne.symm (by assumption) | exact x_ne fnb fS (by simp)) nm_n))
            have fpk := kp12.get fpk (nm_c (by first | assumption | exact Ne.symm (by assumption) | exact x_ne fpk fP (by simp)) (nm_c (by first | assumption | exact Ne.symm (by assumption) | exact x_ne fpk fS (by simp)) nm_n))
            have fcd := kp12.get fcd (nm_c (by first | assumption | exact Ne.symm (by assumption) | exact x_ne fcd fP (by simp)) (nm_c (by first | assumption | exact Ne.symm (by assumption) | exact x_ne fcd fS (by simp)) nm_n))
            have kp := kp.call kp12 (kc_c (Or.inl (by simp)) (kc_c (Or.inl (by simp)) kc_n))
            have fP := fP'
            have fS := fS'
            have pO := pO.keep (kp12.ops (no_c fP8 rfl (no_c fS8 rfl no_n)))
            have pC := pC.keep (kp12.ops (no_c fP8 rfl (no_c fS8 rfl no_n)))
            have hend60 : tEnd ks ns n (tB ks n q + 4 * k) ≤ 60 := tW_le hk60 hn60
            refine x_if_eq (tgt := 153) C d_Pa_parse_146 rfl (fun q146 => ?_) (fun q146 => ?_)
            · skip
              exact absurd q146 (by decide)
            · skip
              refine x_iconst (v := 1) C d_Pa_parse_149 (by decide) ?_
              refine x_goto (tgt := 154) C d_Pa_parse_150 rfl ?_
              refine x_istore_n (lv' := [(1, _), (0, _)]) C d_Pa_parse_154 rfl (by decide) (by rfl) ?_
              refine x_goto (tgt := 158) C d_Pa_parse_155 rfl ?_
              refine x_iload_n C d_Pa_parse_158 rfl rfl ?_
              refine x_if_eq (tgt := 183) C d_Pa_parse_159 rfl (fun q159 => ?_) (fun q159 => ?_)
              · skip
                exact absurd q159 (by decide)
              · skip
                refine x_aload_n C d_Pa_parse_162 rfl rfl ?_
                refine x_get C k_Pa f_Pa_52 d_Pa_parse_163 fP (by rfl) ?_
                refine x_aload_n C d_Pa_parse_166 rfl rfl ?_
                refine x_get C k_Pa f_Pa_18 d_Pa_parse_167 fP (by rfl) ?_
                refine x_get C k_To f_Pa_55 d_Pa_parse_170 fT (by rfl) ?_
                refine x_icmp_ne (tgt := 183) C d_Pa_parse_173 rfl (fun q173 => ?_) (fun q173 => ?_)
                · skip
                  first | rw [if_neg (c := 3 = n) (fun z => q173 (congrArg nI z))] at hP | rw [if_neg (c := 2 + tRun ks n 3 60 2 = n) (fun z => q173 (congrArg nI z))] at hP | rw [if_neg (c := 2 + 4 * k = n) (fun z => q173 (congrArg nI z))] at hP | rw [if_neg (c := tEnd ks ns n (tB ks n q + 4 * k) = n) (fun z => q173 (congrArg nI z))] at hP
                  refine x_null C d_Pa_parse_183 ?_
                  refine x_aretN C d_Pa_parse_184 ?_
                  exact Or.inl ⟨hP, rfl, kp⟩
                · skip
                  have hend := (nI_eq (by first | omega | (have := hend60; unfold tEnd at this; omega)) (by omega)).mp q173
                  first | rw [if_pos (show 3 = n from hend)] at hP | rw [if_pos (show 2 + tRun ks n 3 60 2 = n from hend)] at hP | rw [if_pos (show 2 + 4 * k = n from hend)] at hP | rw [if_pos (show tEnd ks ns n (tB ks n q + 4 * k) = n from hend)] at hP
                  refine x_aload_n C d_Pa_parse_176 rfl rfl ?_
                  refine x_get C k_Pa f_Pa_12 d_Pa_parse_177 fP (by rfl) ?_
                  refine x_goto (tgt := 184) C d_Pa_parse_180 rfl ?_
                  refine x_aret C d_Pa_parse_184 ?_
                  exact Or.inr ⟨_, hP, rfl, kp, _, _, _, pick, _, fS, fnb, (fun j h1 h2 => absurd (show j < 0 from h1) (by omega)), fpk, pO, hpk, hr8, fcd, pC, (fun _ _ => rfl), hk8⟩
        · skip
          have fT := kp11.get fT (nm_c (by first | assumption | exact Ne.symm (by assumption) | exact x_ne fT fP (by simp)) (nm_c (by first | assumption | exact Ne.symm (by assumption) | exact x_ne fT fS (by simp)) (nm_c (by first | assumption | exact Ne.symm (by assumption) | exact x_ne fT fcd (by simp)) nm_n)))
          have fkr := kp11.get fkr (nm_c (by first | assumption | exact Ne.symm (by assumption) | exact x_ne fkr fP (by simp)) (nm_c (by first | assumption | exact Ne.symm (by assumption) | exact x_ne fkr fS (by simp)) (nm_c (by first | assumption | exact Ne.symm (by assumption) | exact x_ne fkr fcd (by simp)) nm_n)))
          have fnr := kp11.get fnr (nm_c (by first | assumption | exact Ne.symm (by assumption) | exact x_ne fnr fP (by simp)) (nm_c (by first | assumption | exact Ne.symm (by assumption) | exact x_ne fnr fS (by simp)) (nm_c (by first | assumption | exact Ne.symm (by assumption) | exact x_ne fnr fcd (by simp)) nm_n)))
          have fnb := kp11.get fnb (nm_c (by first | assumption | exact Ne.symm (by assumption) | exact x_ne fnb fP (by simp)) (nm_c (by first | assumption | exact Ne.symm (by assumption) | exact x_ne fnb fS (by simp)) (nm_c (by first | assumption | exact Ne.symm (by assumption) | exact x_ne fnb fcd (by simp)) nm_n)))
          have fpk := kp11.get fpk (nm_c (by first | assumption | exact Ne.symm (by assumption) | exact x_ne fpk fP (by simp)) (nm_c (by first | assumption | exact Ne.symm (by assumption) | exact x_ne fpk fS (by simp)) (nm_c (by first | assumption | exact Ne.symm (by assumption) | exact x_ne fpk fcd (by simp)) nm_n)))
          have kp := kp.call kp11 (kc_c (Or.inl (by simp)) (kc_c (Or.inl (by simp)) (kc_c (Or.inl (by simp)) kc_n)))
          rw [hT] at hP
          replace hP : tParse ks ns n = none := hP
          refine x_if_eq (tgt := 153) C d_Pa_parse_139 rfl (fun q139 => ?_) (fun q139 => ?_)
          · skip
            refine x_iconst (v := 0) C d_Pa_parse_153 (by decide) ?_
            refine x_istore_n (lv' := [(1, _), (0, _)]) C d_Pa_parse_154 rfl (by decide) (by rfl) ?_
            refine x_goto (tgt := 158) C d_Pa_parse_155 rfl ?_
            refine x_iload_n C d_Pa_parse_158 rfl rfl ?_
            refine x_if_eq (tgt := 183) C d_Pa_parse_159 rfl (fun q159 => ?_) (fun q159 => ?_)
            · skip
              refine x_null C d_Pa_parse_183 ?_
              refine x_aretN C d_Pa_parse_184 ?_
              exact Or.inl ⟨hP, rfl, kp⟩
            · skip
              exact absurd q159 (by decide)
          · skip
            exact absurd q139 (by decide)
  · skip
    have hP := tp_no rfl q22
    refine x_tabOut (tgt := 158) C d_Pa_parse_22 q22 rfl ?_
    refine x_iload_n C d_Pa_parse_158 rfl rfl ?_
    refine x_if_eq (tgt := 183) C d_Pa_parse_159 rfl (fun q159 => ?_) (fun q159 => ?_)
    · skip
      refine x_null C d_Pa_parse_183 ?_
      refine x_aretN C d_Pa_parse_184 ?_
      exact Or.inl ⟨hP, rfl, kp⟩
    · skip
      exact absurd q159 (by decide)
