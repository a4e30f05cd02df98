/-! CursorBaseModel: column, nearest -/
set_option maxRecDepth 20000 in
set_option maxHeartbeats 1000000 in
theorem m_Mo_columnN {V : xV} {h : xH} {th rw : Int32} {m : Nat} {fs : List Value} (fm : h m = some (.inr (8, fs))) (hlen : fs.length = 29) (g_there : fs[11]? = some (.int th)) (g_row : fs[21]? = some (.int rw)) (x : Int32) (hno : th = 0 ∨ rw = 0) : xM V y_Mo_column b_Mo_column 3 (some .long) 0 [.ref m, .int x] h 0 0 (fun v h' => v = some (.long 0) ∧ ∃ fs', h' m = some (.inr (8, fs')) ∧ mUp [0] fs fs' ∧ xKeep [m] h h' ∧ fs'[0]? = some (.int 1)) := by
  refine xM_of false (by decide) (fun h => nomatch h) (Nat.le_of_ble_eq_true rfl) (fun K C => ?_)
  show K 0 0 h 0 [(0, .ref m), (1, .int x)] []
  have kp : xKeep [m] h h := xKeep.rf
  have mu : mUp [0] fs fs := mUp.rf
  refine x_aload_n C d_Mo_column_0 rfl rfl ?_
  refine x_get C k_Mo f_Mo_130 d_Mo_column_1 fm g_there ?_
  refine x_if_eq (tgt := 14) C d_Mo_column_4 rfl (fun q4 => ?_) (fun q4 => ?_)
  · skip
    refine x_iconst (v := 1) C d_Mo_column_14 (by decide) ?_
    refine x_goto (tgt := 19) C d_Mo_column_15 rfl ?_
    refine x_istore_n (lv' := [(2, _), (0, _), (1, _)]) C d_Mo_column_19 rfl (by decide) (by rfl) ?_
    refine x_aload_n C d_Mo_column_20 rfl rfl ?_
    refine x_iload_n C d_Mo_column_21 rfl rfl ?_
    refine x_if_eq (tgt := 29) C d_Mo_column_22 rfl (fun q22 => ?_) (fun q22 => ?_)
    · skip
      exact absurd q22 (by decide)
    · skip
      refine x_iconst (v := 1) C d_Mo_column_25 (by decide) ?_
      refine x_goto (tgt := 46) C d_Mo_column_26 rfl ?_
      refine x_put C k_Mo f_Mo_31 d_Mo_column_46 fm (by rfl) (by rfl) (by rfl) (by omega) rfl (fun h1 u1 => ?_)
      have fm := xUp_at u1
      have kp := kp.up u1 (by simp)
      have g_there := gs_ne fm g_there (by decide)
      have g_row := gs_ne fm g_row (by decide)
      have g_thrown := gs_eq fm hlen (by decide)
      have mu := mu.setF fm (by decide)
      have hlen := gs_len fm hlen
      refine x_aload_n C d_Mo_column_49 rfl rfl ?_
      refine x_get C k_Mo f_Mo_31 d_Mo_column_50 fm g_thrown ?_
      refine x_if_le (tgt := 58) C d_Mo_column_53 rfl (fun q53 => ?_) (fun q53 => ?_)
      · skip
        exact absurd q53 (by decide)
      · skip
        refine x_lconst (v := 0) C d_Mo_column_56 (by decide) ?_
        refine x_lret C d_Mo_column_57 ?_
        exact ⟨rfl, _, fm, mu, kp, g_thrown⟩
  · skip
    refine x_aload_n C d_Mo_column_7 rfl rfl ?_
    refine x_get C k_Mo f_Mo_148 d_Mo_column_8 fm g_row ?_
    refine x_if_ne (tgt := 18) C d_Mo_column_11 rfl (fun q11 => ?_) (fun q11 => ?_)
    · skip
      exact hno.elim (fun z => absurd z q4) (fun z => absurd z q11)
    · skip
      refine x_iconst (v := 1) C d_Mo_column_14 (by decide) ?_
      refine x_goto (tgt := 19) C d_Mo_column_15 rfl ?_
      refine x_istore_n (lv' := [(2, _), (0, _), (1, _)]) C d_Mo_column_19 rfl (by decide) (by rfl) ?_
      refine x_aload_n C d_Mo_column_20 rfl rfl ?_
      refine x_iload_n C d_Mo_column_21 rfl rfl ?_
      refine x_if_eq (tgt := 29) C d_Mo_column_22 rfl (fun q22 => ?_) (fun q22 => ?_)
      · skip
        exact absurd q22 (by decide)
      · skip
        refine x_iconst (v := 1) C d_Mo_column_25 (by decide) ?_
        refine x_goto (tgt := 46) C d_Mo_column_26 rfl ?_
        refine x_put C k_Mo f_Mo_31 d_Mo_column_46 fm (by rfl) (by rfl) (by rfl) (by omega) rfl (fun h2 u2 => ?_)
        have fm := xUp_at u2
        have kp := kp.up u2 (by simp)
        have g_there := gs_ne fm g_there (by decide)
        have g_row := gs_ne fm g_row (by decide)
        have g_thrown := gs_eq fm hlen (by decide)
        have mu := mu.setF fm (by decide)
        have hlen := gs_len fm hlen
        refine x_aload_n C d_Mo_column_49 rfl rfl ?_
        refine x_get C k_Mo f_Mo_31 d_Mo_column_50 fm g_thrown ?_
        refine x_if_le (tgt := 58) C d_Mo_column_53 rfl (fun q53 => ?_) (fun q53 => ?_)
        · skip
          exact absurd q53 (by decide)
        · skip
          refine x_lconst (v := 0) C d_Mo_column_56 (by decide) ?_
          refine x_lret C d_Mo_column_57 ?_
          exact ⟨rfl, _, fm, mu, kp, g_thrown⟩
set_option maxRecDepth 20000 in
set_option maxHeartbeats 1000000 in
theorem m_Mo_columnX {V : xV} {h : xH} {mhk mhn mco r : Nat} {hk hn c : Nat → Int32} {a1 a2 : Int32} {m : Nat} {fs : List Value} (fm : h m = some (.inr (8, fs))) (hlen : fs.length = 29) (g_there : fs[11]? = some (.int 1)) (g_row : fs[21]? = some (.int 1)) (g_hadKinds : fs[8]? = some (.ref mhk)) (g_hadNumbers : fs[9]? = some (.ref mhn)) (g_columns : fs[1]? = some (.ref mco)) (g_first : fs[12]? = some (.int a1)) (g_second : fs[13]? = some (.int a2)) (fhk : h mhk = some (xI V 60 hk)) (fhn : h mhn = some (xI V 60 hn)) (fco : h mco = some (xI V 10 c)) (hw : hn 0 = 3 → (∃ t, t < 10 ∧ a1 = nI t) ∧ (a2 = -1 ∨ ∃ t, t < 10 ∧ a2 = nI t) ∧ (¬ hk 1 = 0 → r + 1 < 60 ∧ (∀ j, j < r → hk (1 + j) = 2) ∧ ¬ hk (1 + r) = 2)) (x : Int32) (hout : x < 0 ∨ mWide hk hn c a1 a2 r ≤ x) : xM V y_Mo_column b_Mo_column 3 (some .long) 2 [.ref m, .int x] h 0 0 (fun v h' => v = some (.long 0) ∧ ∃ fs', h' m = some (.inr (8, fs')) ∧ mUp [0] fs fs' ∧ xKeep [m] h h' ∧ fs'[0]? = some (.int 2)) := by
  refine xM_of false (by decide) (fun h => nomatch h) (Nat.le_of_ble_eq_true rfl) (fun K C => ?_)
  show K 0 0 h 0 [(0, .ref m), (1, .int x)] []
  have kp : xKeep [m] h h := xKeep.rf
  have mu : mUp [0] fs fs := mUp.rf
  refine x_aload_n C d_Mo_column_0 rfl rfl ?_
  refine x_get C k_Mo f_Mo_130 d_Mo_column_1 fm g_there ?_
  refine x_if_eq (tgt := 14) C d_Mo_column_4 rfl (fun q4 => ?_) (fun q4 => ?_)
  · skip
    exact absurd q4 (by decide)
  · skip
    refine x_aload_n C d_Mo_column_7 rfl rfl ?_
    refine x_get C k_Mo f_Mo_148 d_Mo_column_8 fm g_row ?_
    refine x_if_ne (tgt := 18) C d_Mo_column_11 rfl (fun q11 => ?_) (fun q11 => ?_)
    · skip
      refine x_iconst (v := 0) C d_Mo_column_18 (by decide) ?_
      refine x_istore_n (lv' := [(2, _), (0, _), (1, _)]) C d_Mo_column_19 rfl (by decide) (by rfl) ?_
      refine x_aload_n C d_Mo_column_20 rfl rfl ?_
      refine x_iload_n C d_Mo_column_21 rfl rfl ?_
      refine x_if_eq (tgt := 29) C d_Mo_column_22 rfl (fun q22 => ?_) (fun q22 => ?_)
      · skip
        refine x_iload_n C d_Mo_column_29 rfl rfl ?_
        refine x_if_lt (tgt := 41) C d_Mo_column_30 rfl (fun q30 => ?_) (fun q30 => ?_)
        · skip
          refine x_iconst (v := 2) C d_Mo_column_41 (by decide) ?_
          refine x_goto (tgt := 46) C d_Mo_column_42 rfl ?_
          refine x_put C k_Mo f_Mo_31 d_Mo_column_46 fm (by rfl) (by rfl) (by rfl) (by omega) rfl (fun h1 u1 => ?_)
          have fhk := xUp_ne u1 fhk (by first | assumption | exact Ne.symm (by assumption) | exact x_ne fhk fm (by simp))
          have fhn := xUp_ne u1 fhn (by first | assumption | exact Ne.symm (by assumption) | exact x_ne fhn fm (by simp))
          have fco := xUp_ne u1 fco (by first | assumption | exact Ne.symm (by assumption) | exact x_ne fco fm (by simp))
          have fm := xUp_at u1
          have kp := kp.up u1 (by simp)
          have g_there := gs_ne fm g_there (by decide)
          have g_row := gs_ne fm g_row (by decide)
          have g_hadKinds := gs_ne fm g_hadKinds (by decide)
          have g_hadNumbers := gs_ne fm g_hadNumbers (by decide)
          have g_columns := gs_ne fm g_columns (by decide)
          have g_first := gs_ne fm g_first (by decide)
          have g_second := gs_ne fm g_second (by decide)
          have g_thrown := gs_eq fm hlen (by decide)
          have mu := mu.setF fm (by decide)
          have hlen := gs_len fm hlen
          refine x_aload_n C d_Mo_column_49 rfl rfl ?_
          refine x_get C k_Mo f_Mo_31 d_Mo_column_50 fm g_thrown ?_
          refine x_if_le (tgt := 58) C d_Mo_column_53 rfl (fun q53 => ?_) (fun q53 => ?_)
          · skip
            exact absurd q53 (by decide)
          · skip
            refine x_lconst (v := 0) C d_Mo_column_56 (by decide) ?_
            refine x_lret C d_Mo_column_57 ?_
            exact ⟨rfl, _, fm, mu, kp, g_thrown⟩
        · skip
          refine x_iload_n C d_Mo_column_33 rfl rfl ?_
          refine x_aload_n C d_Mo_column_34 rfl rfl ?_
          refine x_callV C l_Mo_200 v_Mo_wide d_Mo_column_35 (m_Mo_wide (r := r) fm hlen g_hadKinds g_hadNumbers g_columns g_first g_second fhk fhn fco hw) fm rfl (by rfl) (by rfl) (by decide) (by decide) (Nat.le_of_ble_eq_true rfl) ?_
          rintro v9 h9 ⟨rfl, rfl⟩
          refine x_icmp_lt (tgt := 45) C d_Mo_column_38 rfl (fun q38 => ?_) (fun q38 => ?_)
          · skip
            exact hout.elim (fun z => absurd z q30) (fun z => absurd q38 (Int32.not_lt.mpr z))
          · skip
            refine x_iconst (v := 2) C d_Mo_column_41 (by decide) ?_
            refine x_goto (tgt := 46) C d_Mo_column_42 rfl ?_
            refine x_put C k_Mo f_Mo_31 d_Mo_column_46 fm (by rfl) (by rfl) (by rfl) (by omega) rfl (fun h2 u2 => ?_)
            have fhk := xUp_ne u2 fhk (by first | assumption | exact Ne.symm (by assumption) | exact x_ne fhk fm (by simp))
            have fhn := xUp_ne u2 fhn (by first | assumption | exact Ne.symm (by assumption) | exact x_ne fhn fm (by simp))
            have fco := xUp_ne u2 fco (by first | assumption | exact Ne.symm (by assumption) | exact x_ne fco fm (by simp))
            have fm := xUp_at u2
            have kp := kp.up u2 (by simp)
            have g_there := gs_ne fm g_there (by decide)
            have g_row := gs_ne fm g_row (by decide)
            have g_hadKinds := gs_ne fm g_hadKinds (by decide)
            have g_hadNumbers := gs_ne fm g_hadNumbers (by decide)
            have g_columns := gs_ne fm g_columns (by decide)
            have g_first := gs_ne fm g_first (by decide)
            have g_second := gs_ne fm g_second (by decide)
            have g_thrown := gs_eq fm hlen (by decide)
            have mu := mu.setF fm (by decide)
            have hlen := gs_len fm hlen
            refine x_aload_n C d_Mo_column_49 rfl rfl ?_
            refine x_get C k_Mo f_Mo_31 d_Mo_column_50 fm g_thrown ?_
            refine x_if_le (tgt := 58) C d_Mo_column_53 rfl (fun q53 => ?_) (fun q53 => ?_)
            · skip
              exact absurd q53 (by decide)
            · skip
              refine x_lconst (v := 0) C d_Mo_column_56 (by decide) ?_
              refine x_lret C d_Mo_column_57 ?_
              exact ⟨rfl, _, fm, mu, kp, g_thrown⟩
      · skip
        exact absurd q22 (by decide)
    · skip
      exact absurd q11 (by decide)
set_option maxRecDepth 20000 in
set_option maxHeartbeats 1000000 in
theorem m_Mo_columnT {V : xV} {h : xH} {mhk mhn mco r : Nat} {hk hn c : Nat → Int32} {a1 a2 : Int32} {tt : Int64} {m : Nat} {fs : List Value} (fm : h m = some (.inr (8, fs))) (hlen : fs.length = 29) (g_there : fs[11]? = some (.int 1)) (g_row : fs[21]? = some (.int 1)) (g_hadKinds : fs[8]? = some (.ref mhk)) (g_hadNumbers : fs[9]? = some (.ref mhn)) (g_columns : fs[1]? = some (.ref mco)) (g_first : fs[12]? = some (.int a1)) (g_second : fs[13]? = some (.int a2)) (g_told : fs[22]? = some (.long tt)) (fhk : h mhk = some (xI V 60 hk)) (fhn : h mhn = some (xI V 60 hn)) (fco : h mco = some (xI V 10 c)) (hw : hn 0 = 3 → (∃ t, t < 10 ∧ a1 = nI t) ∧ (a2 = -1 ∨ ∃ t, t < 10 ∧ a2 = nI t) ∧ (¬ hk 1 = 0 → r + 1 < 60 ∧ (∀ j, j < r → hk (1 + j) = 2) ∧ ¬ hk (1 + r) = 2)) (x : Int32) (hx0 : ¬ x < 0) (hxw : x < mWide hk hn c a1 a2 r) (hfo : (hk 1 = 0 ∧ ¬ hn 1 = 4)) : xM V y_Mo_column b_Mo_column 3 (some .long) 2 [.ref m, .int x] h 0 0 (fun v h' => v = some (.long tt) ∧ ∃ fs', h' m = some (.inr (8, fs')) ∧ mUp [0] fs fs' ∧ xKeep [m] h h' ∧ fs'[0]? = some (.int 0)) := by
  refine xM_of false (by decide) (fun h => nomatch h) (Nat.le_of_ble_eq_true rfl) (fun K C => ?_)
  show K 0 0 h 0 [(0, .ref m), (1, .int x)] []
  have kp : xKeep [m] h h := xKeep.rf
  have mu : mUp [0] fs fs := mUp.rf
  refine x_aload_n C d_Mo_column_0 rfl rfl ?_
  refine x_get C k_Mo f_Mo_130 d_Mo_column_1 fm g_there ?_
  refine x_if_eq (tgt := 14) C d_Mo_column_4 rfl (fun q4 => ?_) (fun q4 => ?_)
  · skip
    exact absurd q4 (by decide)
  · skip
    refine x_aload_n C d_Mo_column_7 rfl rfl ?_
    refine x_get C k_Mo f_Mo_148 d_Mo_column_8 fm g_row ?_
    refine x_if_ne (tgt := 18) C d_Mo_column_11 rfl (fun q11 => ?_) (fun q11 => ?_)
    · skip
      refine x_iconst (v := 0) C d_Mo_column_18 (by decide) ?_
      refine x_istore_n (lv' := [(2, _), (0, _), (1, _)]) C d_Mo_column_19 rfl (by decide) (by rfl) ?_
      refine x_aload_n C d_Mo_column_20 rfl rfl ?_
      refine x_iload_n C d_Mo_column_21 rfl rfl ?_
      refine x_if_eq (tgt := 29) C d_Mo_column_22 rfl (fun q22 => ?_) (fun q22 => ?_)
      · skip
        refine x_iload_n C d_Mo_column_29 rfl rfl ?_
        refine x_if_lt (tgt := 41) C d_Mo_column_30 rfl (fun q30 => ?_) (fun q30 => ?_)
        · skip
          exact absurd q30 hx0
        · skip
          refine x_iload_n C d_Mo_column_33 rfl rfl ?_
          refine x_aload_n C d_Mo_column_34 rfl rfl ?_
          refine x_callV C l_Mo_200 v_Mo_wide d_Mo_column_35 (m_Mo_wide (r := r) fm hlen g_hadKinds g_hadNumbers g_columns g_first g_second fhk fhn fco hw) fm rfl (by rfl) (by rfl) (by decide) (by decide) (Nat.le_of_ble_eq_true rfl) ?_
          rintro v9 h9 ⟨rfl, rfl⟩
          refine x_icmp_lt (tgt := 45) C d_Mo_column_38 rfl (fun q38 => ?_) (fun q38 => ?_)
          · skip
            refine x_iconst (v := 0) C d_Mo_column_45 (by decide) ?_
            refine x_put C k_Mo f_Mo_31 d_Mo_column_46 fm (by rfl) (by rfl) (by rfl) (by omega) rfl (fun h1 u1 => ?_)
            have fhk := xUp_ne u1 fhk (by first | assumption | exact Ne.symm (by assumption) | exact x_ne fhk fm (by simp))
            have fhn := xUp_ne u1 fhn (by first | assumption | exact Ne.symm (by assumption) | exact x_ne fhn fm (by simp))
            have fco := xUp_ne u1 fco (by first | assumption | exact Ne.symm (by assumption) | exact x_ne fco fm (by simp))
            have fm := xUp_at u1
            have kp := kp.up u1 (by simp)
            have g_there := gs_ne fm g_there (by decide)
            have g_row := gs_ne fm g_row (by decide)
            have g_hadKinds := gs_ne fm g_hadKinds (by decide)
            have g_hadNumbers := gs_ne fm g_hadNumbers (by decide)
            have g_columns := gs_ne fm g_columns (by decide)
            have g_first := gs_ne fm g_first (by decide)
            have g_second := gs_ne fm g_second (by decide)
            have g_told := gs_ne fm g_told (by decide)
            have g_thrown := gs_eq fm hlen (by decide)
            have mu := mu.setF fm (by decide)
            have hlen := gs_len fm hlen
            refine x_aload_n C d_Mo_column_49 rfl rfl ?_
            refine x_get C k_Mo f_Mo_31 d_Mo_column_50 fm g_thrown ?_
            refine x_if_le (tgt := 58) C d_Mo_column_53 rfl (fun q53 => ?_) (fun q53 => ?_)
            · skip
              refine x_aload_n C d_Mo_column_58 rfl rfl ?_
              refine x_callV C l_Mo_176 v_Mo_isFold d_Mo_column_59 (m_Mo_isFold fm hlen g_hadKinds g_hadNumbers fhk fhn) fm rfl (by rfl) (by rfl) (by decide) (by decide) (Nat.le_of_ble_eq_true rfl) ?_
              rintro v9 h9 ⟨rfl, rfl⟩
              refine x_if_eq (tgt := 70) C d_Mo_column_62 rfl (fun q62 => ?_) (fun q62 => ?_)
              · skip
                replace q62 := bI_f q62
                exact absurd q62 (by simp [hfo.1, hfo.2])
              · skip
                replace q62 := bI_t q62
                refine x_aload_n C d_Mo_column_65 rfl rfl ?_
                refine x_get C k_Mo f_Mo_172 d_Mo_column_66 fm g_told ?_
                refine x_lret C d_Mo_column_69 ?_
                exact ⟨rfl, _, fm, mu, kp, g_thrown⟩
            · skip
              exact absurd q53 (by decide)
          · skip
            exact absurd hxw q38
      · skip
        exact absurd q22 (by decide)
    · skip
      exact absurd q11 (by decide)
set_option maxRecDepth 20000 in
set_option maxHeartbeats 1000000 in
theorem m_Mo_columnL {V : xV} {h : xH} {mhk mhn mco mce r xi a b : Nat} {hk hn c f : Nat → Int32} {a1 a2 aT bT : Int32} {m : Nat} {fs : List Value} (fm : h m = some (.inr (8, fs))) (hlen : fs.length = 29) (g_there : fs[11]? = some (.int 1)) (g_row : fs[21]? = some (.int 1)) (g_hadKinds : fs[8]? = some (.ref mhk)) (g_hadNumbers : fs[9]? = some (.ref mhn)) (g_columns : fs[1]? = some (.ref mco)) (g_first : fs[12]? = some (.int a1)) (g_second : fs[13]? = some (.int a2)) (g_at : fs[19]? = some (.int aT)) (g_beside : fs[20]? = some (.int bT)) (g_cells : fs[3]? = some (.ref mce)) (fhk : h mhk = some (xI V 60 hk)) (fhn : h mhn = some (xI V 60 hn)) (fco : h mco = some (xI V 10 c)) (fce : h mce = some (xI V 2400 f)) (hw : hn 0 = 3 → (∃ t, t < 10 ∧ a1 = nI t) ∧ (a2 = -1 ∨ ∃ t, t < 10 ∧ a2 = nI t) ∧ (¬ hk 1 = 0 → r + 1 < 60 ∧ (∀ j, j < r → hk (1 + j) = 2) ∧ ¬ hk (1 + r) = 2)) (hx0 : ¬ nI xi < 0) (hxw : nI xi < mWide hk hn c a1 a2 r) (hk1 : hk 1 = 2) (hx6 : 1 + xi < 60) (hin : mIn hk hn (1 + xi) aT bT a b) : xM V y_Mo_column b_Mo_column 3 (some .long) 2 [.ref m, .int (nI xi)] h 0 0 (fun v h' => v = some (.long (mVal hk hn f (1 + xi) a b).toInt64) ∧ ∃ fs', h' m = some (.inr (8, fs')) ∧ mUp [0] fs fs' ∧ xKeep [m] h h' ∧ fs'[0]? = some (.int 0)) := by
  refine xM_of false (by decide) (fun h => nomatch h) (Nat.le_of_ble_eq_true rfl) (fun K C => ?_)
  show K 0 0 h 0 [(0, .ref m), (1, .int (nI xi))] []
  have kp : xKeep [m] h h := xKeep.rf
  have mu : mUp [0] fs fs := mUp.rf
  have hnf : ¬ (hk 1 = 0 ∧ ¬ hn 1 = 4) := fun z => absurd (z.1.symm.trans hk1) (by decide)
  refine x_aload_n C d_Mo_column_0 rfl rfl ?_
  refine x_get C k_Mo f_Mo_130 d_Mo_column_1 fm g_there ?_
  refine x_if_eq (tgt := 14) C d_Mo_column_4 rfl (fun q4 => ?_) (fun q4 => ?_)
  · skip
    exact absurd q4 (by decide)
  · skip
    refine x_aload_n C d_Mo_column_7 rfl rfl ?_
    refine x_get C k_Mo f_Mo_148 d_Mo_column_8 fm g_row ?_
    refine x_if_ne (tgt := 18) C d_Mo_column_11 rfl (fun q11 => ?_) (fun q11 => ?_)
    · skip
      refine x_iconst (v := 0) C d_Mo_column_18 (by decide) ?_
      refine x_istore_n (lv' := [(2, _), (0, _), (1, _)]) C d_Mo_column_19 rfl (by decide) (by rfl) ?_
      refine x_aload_n C d_Mo_column_20 rfl rfl ?_
      refine x_iload_n C d_Mo_column_21 rfl rfl ?_
      refine x_if_eq (tgt := 29) C d_Mo_column_22 rfl (fun q22 => ?_) (fun q22 => ?_)
      · skip
        refine x_iload_n C d_Mo_column_29 rfl rfl ?_
        refine x_if_lt (tgt := 41) C d_Mo_column_30 rfl (fun q30 => ?_) (fun q30 => ?_)
        · skip
          exact absurd q30 hx0
        · skip
          refine x_iload_n C d_Mo_column_33 rfl rfl ?_
          refine x_aload_n C d_Mo_column_34 rfl rfl ?_
          refine x_callV C l_Mo_200 v_Mo_wide d_Mo_column_35 (m_Mo_wide (r := r) fm hlen g_hadKinds g_hadNumbers g_columns g_first g_second fhk fhn fco hw) fm rfl (by rfl) (by rfl) (by decide) (by decide) (Nat.le_of_ble_eq_true rfl) ?_
          rintro v9 h9 ⟨rfl, rfl⟩
          refine x_icmp_lt (tgt := 45) C d_Mo_column_38 rfl (fun q38 => ?_) (fun q38 => ?_)
          · skip
            refine x_iconst (v := 0) C d_Mo_column_45 (by decide) ?_
            refine x_put C k_Mo f_Mo_31 d_Mo_column_46 fm (by rfl) (by rfl) (by rfl) (by omega) rfl (fun h1 u1 => ?_)
            have fhk := xUp_ne u1 fhk (by first | assumption | exact Ne.symm (by assumption) | exact x_ne fhk fm (by simp))
            have fhn := xUp_ne u1 fhn (by first | assumption | exact Ne.symm (by assumption) | exact x_ne fhn fm (by simp))
            have fco := xUp_ne u1 fco (by first | assumption | exact Ne.symm (by assumption) | exact x_ne fco fm (by simp))
            have fce := xUp_ne u1 fce (by first | assumption | exact Ne.symm (by assumption) | exact x_ne fce fm (by simp))
            have fm := xUp_at u1
            have kp := kp.up u1 (by simp)
            have g_there := gs_ne fm g_there (by decide)
            have g_row := gs_ne fm g_row (by decide)
            have g_hadKinds := gs_ne fm g_hadKinds (by decide)
            have g_hadNumbers := gs_ne fm g_hadNumbers (by decide)
            have g_columns := gs_ne fm g_columns (by decide)
            have g_first := gs_ne fm g_first (by decide)
            have g_second := gs_ne fm g_second (by decide)
            have g_at := gs_ne fm g_at (by decide)
            have g_beside := gs_ne fm g_beside (by decide)
            have g_cells := gs_ne fm g_cells (by decide)
            have g_thrown := gs_eq fm hlen (by decide)
            have mu := mu.setF fm (by decide)
            have hlen := gs_len fm hlen
            refine x_aload_n C d_Mo_column_49 rfl rfl ?_
            refine x_get C k_Mo f_Mo_31 d_Mo_column_50 fm g_thrown ?_
            refine x_if_le (tgt := 58) C d_Mo_column_53 rfl (fun q53 => ?_) (fun q53 => ?_)
            · skip
              refine x_aload_n C d_Mo_column_58 rfl rfl ?_
              refine x_callV C l_Mo_176 v_Mo_isFold d_Mo_column_59 (m_Mo_isFold fm hlen g_hadKinds g_hadNumbers fhk fhn) fm rfl (by rfl) (by rfl) (by decide) (by decide) (Nat.le_of_ble_eq_true rfl) ?_
              rintro v9 h9 ⟨rfl, rfl⟩
              refine x_if_eq (tgt := 70) C d_Mo_column_62 rfl (fun q62 => ?_) (fun q62 => ?_)
              · skip
                replace q62 := bI_f q62
                refine x_aload_n C d_Mo_column_70 rfl rfl ?_
                refine x_get C k_Mo f_Mo_25 d_Mo_column_71 fm g_hadKinds ?_
                refine x_iconst (v := 1) C d_Mo_column_74 (by decide) ?_
                refine x_iald C d_Mo_column_75 fhk (vp_in_nI (n := 1) (by decide) (by decide)) ?_
                rw [show (1 : Int32).toNatClampNeg = 1 by decide]
                refine x_iconst (v := 2) C d_Mo_column_76 (by decide) ?_
                refine x_icmp_ne (tgt := 97) C d_Mo_column_77 rfl (fun q77 => ?_) (fun q77 => ?_)
                · skip
                  exact absurd hk1 q77
                · skip
                  refine x_aload_n C d_Mo_column_80 rfl rfl ?_
                  refine x_iconst (v := 1) C d_Mo_column_81 (by decide) ?_
                  refine x_iload_n C d_Mo_column_82 rfl rfl ?_
                  refine x_iadd C d_Mo_column_83 ?_
                  refine x_aload_n C d_Mo_column_84 rfl rfl ?_
                  refine x_get C k_Mo f_Mo_142 d_Mo_column_85 fm g_at ?_
                  refine x_aload_n C d_Mo_column_88 rfl rfl ?_
                  refine x_get C k_Mo f_Mo_145 d_Mo_column_89 fm g_beside ?_
                  rw [show (1 : Int32) + nI xi = nI (1 + xi) from nI_add 1 xi]
                  refine x_callV C l_Mo_155 v_Mo_value d_Mo_column_92 (m_Mo_value (t := 1 + xi) (a := a) (b := b) fm hlen g_hadKinds g_hadNumbers g_cells fhk fhn fce hx6 hin) fm rfl (by rfl) (by rfl) (by decide) (by decide) (Nat.le_of_ble_eq_true rfl) ?_
                  rintro v9 h9 ⟨rfl, rfl⟩
                  refine x_i2l C d_Mo_column_95 ?_
                  refine x_lret C d_Mo_column_96 ?_
                  exact ⟨rfl, _, fm, mu, kp, g_thrown⟩
              · skip
                replace q62 := bI_t q62
                exact absurd (by simpa using q62) hnf
            · skip
              exact absurd q53 (by decide)
          · skip
            exact absurd hxw q38
      · skip
        exact absurd q22 (by decide)
    · skip
      exact absurd q11 (by decide)
set_option maxRecDepth 20000 in
set_option maxHeartbeats 1000000 in
theorem m_Mo_columnA {V : xV} {h : xH} {mhk mhn mco mce r xi a b t1 c1 : Nat} {hk hn c f : Nat → Int32} {a1 a2 aT bT : Int32} {m : Nat} {fs : List Value} (fm : h m = some (.inr (8, fs))) (hlen : fs.length = 29) (g_there : fs[11]? = some (.int 1)) (g_row : fs[21]? = some (.int 1)) (g_hadKinds : fs[8]? = some (.ref mhk)) (g_hadNumbers : fs[9]? = some (.ref mhn)) (g_columns : fs[1]? = some (.ref mco)) (g_first : fs[12]? = some (.int a1)) (g_second : fs[13]? = some (.int a2)) (g_at : fs[19]? = some (.int aT)) (g_beside : fs[20]? = some (.int bT)) (g_cells : fs[3]? = some (.ref mce)) (fhk : h mhk = some (xI V 60 hk)) (fhn : h mhn = some (xI V 60 hn)) (fco : h mco = some (xI V 10 c)) (fce : h mce = some (xI V 2400 f)) (hw : hn 0 = 3 → (∃ t, t < 10 ∧ a1 = nI t) ∧ (a2 = -1 ∨ ∃ t, t < 10 ∧ a2 = nI t) ∧ (¬ hk 1 = 0 → r + 1 < 60 ∧ (∀ j, j < r → hk (1 + j) = 2) ∧ ¬ hk (1 + r) = 2)) (hx0 : ¬ nI xi < 0) (hxw : nI xi < mWide hk hn c a1 a2 r) (hk1 : hk 1 = 0) (hn1 : hn 1 = 4) (ht1 : t1 < 10) (e1 : a1 = nI t1) (ec : c t1 = nI c1) (hc1 : c1 ≤ 6) (hx12 : xi < 12) (hA : xi < c1 → aT = nI a ∧ a < 400) (hB : ¬ xi < c1 → bT = nI b ∧ b < 400 ∧ xi - c1 < 6) : xM V y_Mo_column b_Mo_column 3 (some .long) 2 [.ref m, .int (nI xi)] h 0 0 (fun v h' => v = some (.long (if xi < c1 then f (a * 6 + xi) else f (b * 6 + (xi - c1))).toInt64) ∧ ∃ fs', h' m = some (.inr (8, fs')) ∧ mUp [0] fs fs' ∧ xKeep [m] h h' ∧ fs'[0]? = some (.int 0)) := by
  refine xM_of false (by decide) (fun h => nomatch h) (Nat.le_of_ble_eq_true rfl) (fun K C => ?_)
  show K 0 0 h 0 [(0, .ref m), (1, .int (nI xi))] []
  have kp : xKeep [m] h h := xKeep.rf
  have mu : mUp [0] fs fs := mUp.rf
  have hnf : ¬ (hk 1 = 0 ∧ ¬ hn 1 = 4) := fun z => z.2 hn1
  refine x_aload_n C d_Mo_column_0 rfl rfl ?_
  refine x_get C k_Mo f_Mo_130 d_Mo_column_1 fm g_there ?_
  refine x_if_eq (tgt := 14) C d_Mo_column_4 rfl (fun q4 => ?_) (fun q4 => ?_)
  · skip
    exact absurd q4 (by decide)
  · skip
    refine x_aload_n C d_Mo_column_7 rfl rfl ?_
    refine x_get C k_Mo f_Mo_148 d_Mo_column_8 fm g_row ?_
    refine x_if_ne (tgt := 18) C d_Mo_column_11 rfl (fun q11 => ?_) (fun q11 => ?_)
    · skip
      refine x_iconst (v := 0) C d_Mo_column_18 (by decide) ?_
      refine x_istore_n (lv' := [(2, _), (0, _), (1, _)]) C d_Mo_column_19 rfl (by decide) (by rfl) ?_
      refine x_aload_n C d_Mo_column_20 rfl rfl ?_
      refine x_iload_n C d_Mo_column_21 rfl rfl ?_
      refine x_if_eq (tgt := 29) C d_Mo_column_22 rfl (fun q22 => ?_) (fun q22 => ?_)
      · skip
        refine x_iload_n C d_Mo_column_29 rfl rfl ?_
        refine x_if_lt (tgt := 41) C d_Mo_column_30 rfl (fun q30 => ?_) (fun q30 => ?_)
        · skip
          exact absurd q30 hx0
        · skip
          refine x_iload_n C d_Mo_column_33 rfl rfl ?_
          refine x_aload_n C d_Mo_column_34 rfl rfl ?_
          refine x_callV C l_Mo_200 v_Mo_wide d_Mo_column_35 (m_Mo_wide (r := r) fm hlen g_hadKinds g_hadNumbers g_columns g_first g_second fhk fhn fco hw) fm rfl (by rfl) (by rfl) (by decide) (by decide) (Nat.le_of_ble_eq_true rfl) ?_
          rintro v9 h9 ⟨rfl, rfl⟩
          refine x_icmp_lt (tgt := 45) C d_Mo_column_38 rfl (fun q38 => ?_) (fun q38 => ?_)
          · skip
            refine x_iconst (v := 0) C d_Mo_column_45 (by decide) ?_
            refine x_put C k_Mo f_Mo_31 d_Mo_column_46 fm (by rfl) (by rfl) (by rfl) (by omega) rfl (fun h1 u1 => ?_)
            have fhk := xUp_ne u1 fhk (by first | assumption | exact Ne.symm (by assumption) | exact x_ne fhk fm (by simp))
            have fhn := xUp_ne u1 fhn (by first | assumption | exact Ne.symm (by assumption) | exact x_ne fhn fm (by simp))
            have fco := xUp_ne u1 fco (by first | assumption | exact Ne.symm (by assumption) | exact x_ne fco fm (by simp))
            have fce := xUp_ne u1 fce (by first | assumption | exact Ne.symm (by assumption) | exact x_ne fce fm (by simp))
            have fm := xUp_at u1
            have kp := kp.up u1 (by simp)
            have g_there := gs_ne fm g_there (by decide)
            have g_row := gs_ne fm g_row (by decide)
            have g_hadKinds := gs_ne fm g_hadKinds (by decide)
            have g_hadNumbers := gs_ne fm g_hadNumbers (by decide)
            have g_columns := gs_ne fm g_columns (by decide)
            have g_first := gs_ne fm g_first (by decide)
            have g_second := gs_ne fm g_second (by decide)
            have g_at := gs_ne fm g_at (by decide)
            have g_beside := gs_ne fm g_beside (by decide)
            have g_cells := gs_ne fm g_cells (by decide)
            have g_thrown := gs_eq fm hlen (by decide)
            have mu := mu.setF fm (by decide)
            have hlen := gs_len fm hlen
            refine x_aload_n C d_Mo_column_49 rfl rfl ?_
            refine x_get C k_Mo f_Mo_31 d_Mo_column_50 fm g_thrown ?_
            refine x_if_le (tgt := 58) C d_Mo_column_53 rfl (fun q53 => ?_) (fun q53 => ?_)
            · skip
              refine x_aload_n C d_Mo_column_58 rfl rfl ?_
              refine x_callV C l_Mo_176 v_Mo_isFold d_Mo_column_59 (m_Mo_isFold fm hlen g_hadKinds g_hadNumbers fhk fhn) fm rfl (by rfl) (by rfl) (by decide) (by decide) (Nat.le_of_ble_eq_true rfl) ?_
              rintro v9 h9 ⟨rfl, rfl⟩
              refine x_if_eq (tgt := 70) C d_Mo_column_62 rfl (fun q62 => ?_) (fun q62 => ?_)
              · skip
                replace q62 := bI_f q62
                refine x_aload_n C d_Mo_column_70 rfl rfl ?_
                refine x_get C k_Mo f_Mo_25 d_Mo_column_71 fm g_hadKinds ?_
                refine x_iconst (v := 1) C d_Mo_column_74 (by decide) ?_
                refine x_iald C d_Mo_column_75 fhk (vp_in_nI (n := 1) (by decide) (by decide)) ?_
                rw [show (1 : Int32).toNatClampNeg = 1 by decide]
                refine x_iconst (v := 2) C d_Mo_column_76 (by decide) ?_
                refine x_icmp_ne (tgt := 97) C d_Mo_column_77 rfl (fun q77 => ?_) (fun q77 => ?_)
                · skip
                  refine x_iload_n C d_Mo_column_97 rfl rfl ?_
                  refine x_aload_n C d_Mo_column_98 rfl rfl ?_
                  refine x_get C k_Mo f_Mo_7 d_Mo_column_99 fm g_columns ?_
                  refine x_aload_n C d_Mo_column_102 rfl rfl ?_
                  refine x_get C k_Mo f_Mo_115 d_Mo_column_103 fm g_first ?_
                  rw [e1]
                  refine x_iald C d_Mo_column_106 fco (vp_in_nI ht1 (by decide)) ?_
                  rw [nI_clamp (by omega), ec]
                  refine x_icmp_ge (tgt := 123) C d_Mo_column_107 rfl (fun q107 => ?_) (fun q107 => ?_)
                  · skip
                    have hxc : ¬ xi < c1 := by have := nge_of q107 (by omega); omega
                    obtain ⟨eB, hb4, hx6⟩ := hB hxc
                    refine x_aload_n C d_Mo_column_123 rfl rfl ?_
                    refine x_aload_n C d_Mo_column_124 rfl rfl ?_
                    refine x_get C k_Mo f_Mo_145 d_Mo_column_125 fm g_beside ?_
                    refine x_iload_n C d_Mo_column_128 rfl rfl ?_
                    refine x_aload_n C d_Mo_column_129 rfl rfl ?_
                    refine x_get C k_Mo f_Mo_7 d_Mo_column_130 fm g_columns ?_
                    refine x_aload_n C d_Mo_column_133 rfl rfl ?_
                    refine x_get C k_Mo f_Mo_115 d_Mo_column_134 fm g_first ?_
                    rw [e1]
                    refine x_iald C d_Mo_column_137 fco (vp_in_nI ht1 (by decide)) ?_
                    rw [nI_clamp (by omega), ec]
                    refine x_isub C d_Mo_column_138 ?_
                    rw [eB, pk_sub (by omega)]
                    refine x_callV C l_Mo_151 v_Mo_cell d_Mo_column_139 (m_Mo_cell (r := b) (c := xi - c1) fm hlen g_cells fce (by omega)) fm rfl (by rfl) (by rfl) (by decide) (by decide) (Nat.le_of_ble_eq_true rfl) ?_
                    rintro v9 h9 ⟨rfl, rfl⟩
                    refine x_i2l C d_Mo_column_142 ?_
                    refine x_lret C d_Mo_column_143 ?_
                    first | (rw [if_pos hxc]; exact ⟨rfl, _, fm, mu, kp, g_thrown⟩) | (rw [if_neg hxc]; exact ⟨rfl, _, fm, mu, kp, g_thrown⟩)
                  · skip
                    have hxc : xi < c1 := nlt_of q107 (by omega) (by omega)
                    obtain ⟨eA, ha4⟩ := hA hxc
                    refine x_aload_n C d_Mo_column_110 rfl rfl ?_
                    refine x_aload_n C d_Mo_column_111 rfl rfl ?_
                    refine x_get C k_Mo f_Mo_142 d_Mo_column_112 fm g_at ?_
                    refine x_iload_n C d_Mo_column_115 rfl rfl ?_
                    rw [eA]
                    refine x_callV C l_Mo_151 v_Mo_cell d_Mo_column_116 (m_Mo_cell (r := a) (c := xi) fm hlen g_cells fce (by omega)) fm rfl (by rfl) (by rfl) (by decide) (by decide) (Nat.le_of_ble_eq_true rfl) ?_
                    rintro v9 h9 ⟨rfl, rfl⟩
                    refine x_i2l C d_Mo_column_119 ?_
                    refine x_goto (tgt := 143) C d_Mo_column_120 rfl ?_
                    refine x_lret C d_Mo_column_143 ?_
                    first | (rw [if_pos hxc]; exact ⟨rfl, _, fm, mu, kp, g_thrown⟩) | (rw [if_neg hxc]; exact ⟨rfl, _, fm, mu, kp, g_thrown⟩)
                · skip
                  exact absurd (hk1.symm.trans q77) (by decide)
              · skip
                replace q62 := bI_t q62
                exact absurd (by simpa using q62) hnf
            · skip
              exact absurd q53 (by decide)
          · skip
            exact absurd hxw q38
      · skip
        exact absurd q22 (by decide)
    · skip
      exact absurd q11 (by decide)
set_option maxRecDepth 20000 in
set_option maxHeartbeats 1000000 in
theorem m_Mo_nearestO {V : xV} {h : xH} {rws : Int32} {m : Nat} {fs : List Value} (fm : h m = some (.inr (8, fs))) (hlen : fs.length = 29) (g_rows : fs[4]? = some (.int rws)) (t vv up : Int32) (ht : t < 0 ∨ 9 < t) : xM V y_Mo_nearest b_Mo_nearest 8 (some .int) 1 [.ref m, .int t, .int vv, .int up] h 0 0 (fun v h' => v = some (.int 0) ∧ ∃ fs', h' m = some (.inr (8, fs')) ∧ mUp [0] fs fs' ∧ xKeep [m] h h' ∧ fs'[0]? = some (.int 1)) := by
  refine xM_of false (by decide) (fun h => nomatch h) (Nat.le_of_ble_eq_true rfl) (fun K C => ?_)
  show K 0 0 h 0 [(0, .ref m), (1, .int t), (2, .int vv), (3, .int up)] []
  have kp : xKeep [m] h h := xKeep.rf
  have mu : mUp [0] fs fs := mUp.rf
  have hno : (!decide (t < 0) && !decide (9 < t)) = false := by rcases ht with z | z; rw [decide_eq_true z]; rfl; rw [decide_eq_true z]; simp
  refine x_iload_n C d_Mo_nearest_0 rfl rfl ?_
  refine x_i2l C d_Mo_nearest_1 ?_
  refine x_lconst (v := 0) C d_Mo_nearest_2 (by decide) ?_
  refine x_ldc2 C q_Mo_41 d_Mo_nearest_3 ?_
  refine x_callS C l_Mo_37 v_Mo_in d_Mo_nearest_6 (m_Mo_in t.toInt64 0 9) (by rfl) (by rfl) (by decide) (by decide) (Nat.le_of_ble_eq_true rfl) ?_
  rintro v9 h9 ⟨rfl, rfl⟩
  rw [lc_in (a := 0) (b := 9) (by decide) (by decide), hno]
  refine x_if_eq (tgt := 24) C d_Mo_nearest_9 rfl (fun q9 => ?_) (fun q9 => ?_)
  · skip
    replace q9 := bI_f q9
    refine x_iconst (v := 0) C d_Mo_nearest_24 (by decide) ?_
    refine x_istore (lv' := [(4, _), (0, _), (1, _), (2, _), (3, _)]) C d_Mo_nearest_25 (by decide) (by rfl) ?_
    refine x_iconst (v := -1) C d_Mo_nearest_27 (by decide) ?_
    refine x_istore (lv' := [(5, _), (4, _), (0, _), (1, _), (2, _), (3, _)]) C d_Mo_nearest_28 (by decide) (by rfl) ?_
    refine x_iconst (v := 0) C d_Mo_nearest_30 (by decide) ?_
    refine x_istore (lv' := [(6, _), (5, _), (4, _), (0, _), (1, _), (2, _), (3, _)]) C d_Mo_nearest_31 (by decide) (by rfl) ?_
    refine x_iload C d_Mo_nearest_33 rfl ?_
    refine x_aload_n C d_Mo_nearest_35 rfl rfl ?_
    refine x_get C k_Mo f_Mo_159 d_Mo_nearest_36 fm g_rows ?_
    refine x_icmp_ge (tgt := 138) C d_Mo_nearest_39 rfl (fun q39 => ?_) (fun q39 => ?_)
    · skip
      refine x_aload_n C d_Mo_nearest_138 rfl rfl ?_
      refine x_iload C d_Mo_nearest_139 rfl ?_
      refine x_if_ne (tgt := 148) C d_Mo_nearest_141 rfl (fun q141 => ?_) (fun q141 => ?_)
      · skip
        exact absurd q141 (by decide)
      · skip
        refine x_iconst (v := 1) C d_Mo_nearest_144 (by decide) ?_
        refine x_goto (tgt := 159) C d_Mo_nearest_145 rfl ?_
        refine x_put C k_Mo f_Mo_31 d_Mo_nearest_159 fm (by rfl) (by rfl) (by rfl) (by omega) rfl (fun h1 u1 => ?_)
        have fm := xUp_at u1
        have kp := kp.up u1 (by simp)
        have g_rows := gs_ne fm g_rows (by decide)
        have g_thrown := gs_eq fm hlen (by decide)
        have mu := mu.setF fm (by decide)
        have hlen := gs_len fm hlen
        refine x_aload_n C d_Mo_nearest_162 rfl rfl ?_
        refine x_get C k_Mo f_Mo_31 d_Mo_nearest_163 fm g_thrown ?_
        refine x_if_le (tgt := 173) C d_Mo_nearest_166 rfl (fun q166 => ?_) (fun q166 => ?_)
        · skip
          exact absurd q166 (by decide)
        · skip
          refine x_iconst (v := 0) C d_Mo_nearest_169 (by decide) ?_
          refine x_goto (tgt := 180) C d_Mo_nearest_170 rfl ?_
          refine x_iret C d_Mo_nearest_180 ?_
          exact ⟨rfl, _, fm, mu, kp, g_thrown⟩
    · skip
      refine x_iload C d_Mo_nearest_42 rfl ?_
      refine x_if_eq (tgt := 138) C d_Mo_nearest_44 rfl (fun q44 => ?_) (fun q44 => ?_)
      · skip
        refine x_aload_n C d_Mo_nearest_138 rfl rfl ?_
        refine x_iload C d_Mo_nearest_139 rfl ?_
        refine x_if_ne (tgt := 148) C d_Mo_nearest_141 rfl (fun q141 => ?_) (fun q141 => ?_)
        · skip
          exact absurd q141 (by decide)
        · skip
          refine x_iconst (v := 1) C d_Mo_nearest_144 (by decide) ?_
          refine x_goto (tgt := 159) C d_Mo_nearest_145 rfl ?_
          refine x_put C k_Mo f_Mo_31 d_Mo_nearest_159 fm (by rfl) (by rfl) (by rfl) (by omega) rfl (fun h2 u2 => ?_)
          have fm := xUp_at u2
          have kp := kp.up u2 (by simp)
          have g_rows := gs_ne fm g_rows (by decide)
          have g_thrown := gs_eq fm hlen (by decide)
          have mu := mu.setF fm (by decide)
          have hlen := gs_len fm hlen
          refine x_aload_n C d_Mo_nearest_162 rfl rfl ?_
          refine x_get C k_Mo f_Mo_31 d_Mo_nearest_163 fm g_thrown ?_
          refine x_if_le (tgt := 173) C d_Mo_nearest_166 rfl (fun q166 => ?_) (fun q166 => ?_)
          · skip
            exact absurd q166 (by decide)
          · skip
            refine x_iconst (v := 0) C d_Mo_nearest_169 (by decide) ?_
            refine x_goto (tgt := 180) C d_Mo_nearest_170 rfl ?_
            refine x_iret C d_Mo_nearest_180 ?_
            exact ⟨rfl, _, fm, mu, kp, g_thrown⟩
      · skip
        exact absurd q44 (by decide)
  · skip
    replace q9 := bI_t q9
    exact absurd q9 (by decide)
set_option maxRecDepth 20000 in
set_option maxHeartbeats 1000000 in
theorem m_Mo_nearestN {V : xV} {h : xH} {mco t : Nat} {c : Nat → Int32} {rws : Int32} {m : Nat} {fs : List Value} (fm : h m = some (.inr (8, fs))) (hlen : fs.length = 29) (g_rows : fs[4]? = some (.int rws)) (g_columns : fs[1]? = some (.ref mco)) (fco : h mco = some (xI V 10 c)) (ht : t < 10) (hnt : c t ≤ 0) (vv up : Int32) : xM V y_Mo_nearest b_Mo_nearest 8 (some .int) 1 [.ref m, .int (nI t), .int vv, .int up] h 0 0 (fun v h' => v = some (.int 0) ∧ ∃ fs', h' m = some (.inr (8, fs')) ∧ mUp [0] fs fs' ∧ xKeep [m] h h' ∧ fs'[0]? = some (.int 1)) := by
  refine xM_of false (by decide) (fun h => nomatch h) (Nat.le_of_ble_eq_true rfl) (fun K C => ?_)
  show K 0 0 h 0 [(0, .ref m), (1, .int (nI t)), (2, .int vv), (3, .int up)] []
  have kp : xKeep [m] h h := xKeep.rf
  have mu : mUp [0] fs fs := mUp.rf
  have hyes : (!decide (nI t < 0) && !decide (9 < nI t)) = true := by rw [decide_eq_false (nI_pos (by omega)), decide_eq_false (show ¬ 9 < nI t from nI_nlt (a := 9) (by omega) (by omega))]; rfl
  refine x_iload_n C d_Mo_nearest_0 rfl rfl ?_
  refine x_i2l C d_Mo_nearest_1 ?_
  refine x_lconst (v := 0) C d_Mo_nearest_2 (by decide) ?_
  refine x_ldc2 C q_Mo_41 d_Mo_nearest_3 ?_
  refine x_callS C l_Mo_37 v_Mo_in d_Mo_nearest_6 (m_Mo_in (nI t).toInt64 0 9) (by rfl) (by rfl) (by decide) (by decide) (Nat.le_of_ble_eq_true rfl) ?_
  rintro v9 h9 ⟨rfl, rfl⟩
  rw [lc_in (a := 0) (b := 9) (by decide) (by decide), hyes]
  refine x_if_eq (tgt := 24) C d_Mo_nearest_9 rfl (fun q9 => ?_) (fun q9 => ?_)
  · skip
    replace q9 := bI_f q9
    exact absurd q9 (by decide)
  · skip
    replace q9 := bI_t q9
    refine x_aload_n C d_Mo_nearest_12 rfl rfl ?_
    refine x_iload_n C d_Mo_nearest_13 rfl rfl ?_
    refine x_callV C l_Mo_101 v_Mo_isThere d_Mo_nearest_14 (m_Mo_isThere (t := t) fm hlen g_columns fco ht) fm rfl (by rfl) (by rfl) (by decide) (by decide) (Nat.le_of_ble_eq_true rfl) ?_
    rintro v9 h9 ⟨rfl, rfl⟩
    refine x_if_eq (tgt := 24) C d_Mo_nearest_17 rfl (fun q17 => ?_) (fun q17 => ?_)
    · skip
      replace q17 := bI_f q17
      refine x_iconst (v := 0) C d_Mo_nearest_24 (by decide) ?_
      refine x_istore (lv' := [(4, _), (0, _), (1, _), (2, _), (3, _)]) C d_Mo_nearest_25 (by decide) (by rfl) ?_
      refine x_iconst (v := -1) C d_Mo_nearest_27 (by decide) ?_
      refine x_istore (lv' := [(5, _), (4, _), (0, _), (1, _), (2, _), (3, _)]) C d_Mo_nearest_28 (by decide) (by rfl) ?_
      refine x_iconst (v := 0) C d_Mo_nearest_30 (by decide) ?_
      refine x_istore (lv' := [(6, _), (5, _), (4, _), (0, _), (1, _), (2, _), (3, _)]) C d_Mo_nearest_31 (by decide) (by rfl) ?_
      refine x_iload C d_Mo_nearest_33 rfl ?_
      refine x_aload_n C d_Mo_nearest_35 rfl rfl ?_
      refine x_get C k_Mo f_Mo_159 d_Mo_nearest_36 fm g_rows ?_
      refine x_icmp_ge (tgt := 138) C d_Mo_nearest_39 rfl (fun q39 => ?_) (fun q39 => ?_)
      · skip
        refine x_aload_n C d_Mo_nearest_138 rfl rfl ?_
        refine x_iload C d_Mo_nearest_139 rfl ?_
        refine x_if_ne (tgt := 148) C d_Mo_nearest_141 rfl (fun q141 => ?_) (fun q141 => ?_)
        · skip
          exact absurd q141 (by decide)
        · skip
          refine x_iconst (v := 1) C d_Mo_nearest_144 (by decide) ?_
          refine x_goto (tgt := 159) C d_Mo_nearest_145 rfl ?_
          refine x_put C k_Mo f_Mo_31 d_Mo_nearest_159 fm (by rfl) (by rfl) (by rfl) (by omega) rfl (fun h1 u1 => ?_)
          have fco := xUp_ne u1 fco (by first | assumption | exact Ne.symm (by assumption) | exact x_ne fco fm (by simp))
          have fm := xUp_at u1
          have kp := kp.up u1 (by simp)
          have g_rows := gs_ne fm g_rows (by decide)
          have g_columns := gs_ne fm g_columns (by decide)
          have g_thrown := gs_eq fm hlen (by decide)
          have mu := mu.setF fm (by decide)
          have hlen := gs_len fm hlen
          refine x_aload_n C d_Mo_nearest_162 rfl rfl ?_
          refine x_get C k_Mo f_Mo_31 d_Mo_nearest_163 fm g_thrown ?_
          refine x_if_le (tgt := 173) C d_Mo_nearest_166 rfl (fun q166 => ?_) (fun q166 => ?_)
          · skip
            exact absurd q166 (by decide)
          · skip
            refine x_iconst (v := 0) C d_Mo_nearest_169 (by decide) ?_
            refine x_goto (tgt := 180) C d_Mo_nearest_170 rfl ?_
            refine x_iret C d_Mo_nearest_180 ?_
            exact ⟨rfl, _, fm, mu, kp, g_thrown⟩
      · skip
        refine x_iload C d_Mo_nearest_42 rfl ?_
        refine x_if_eq (tgt := 138) C d_Mo_nearest_44 rfl (fun q44 => ?_) (fun q44 => ?_)
        · skip
          refine x_aload_n C d_Mo_nearest_138 rfl rfl ?_
          refine x_iload C d_Mo_nearest_139 rfl ?_
          refine x_if_ne (tgt := 148) C d_Mo_nearest_141 rfl (fun q141 => ?_) (fun q141 => ?_)
          · skip
            exact absurd q141 (by decide)
          · skip
            refine x_iconst (v := 1) C d_Mo_nearest_144 (by decide) ?_
            refine x_goto (tgt := 159) C d_Mo_nearest_145 rfl ?_
            refine x_put C k_Mo f_Mo_31 d_Mo_nearest_159 fm (by rfl) (by rfl) (by rfl) (by omega) rfl (fun h2 u2 => ?_)
            have fco := xUp_ne u2 fco (by first | assumption | exact Ne.symm (by assumption) | exact x_ne fco fm (by simp))
            have fm := xUp_at u2
            have kp := kp.up u2 (by simp)
            have g_rows := gs_ne fm g_rows (by decide)
            have g_columns := gs_ne fm g_columns (by decide)
            have g_thrown := gs_eq fm hlen (by decide)
            have mu := mu.setF fm (by decide)
            have hlen := gs_len fm hlen
            refine x_aload_n C d_Mo_nearest_162 rfl rfl ?_
            refine x_get C k_Mo f_Mo_31 d_Mo_nearest_163 fm g_thrown ?_
            refine x_if_le (tgt := 173) C d_Mo_nearest_166 rfl (fun q166 => ?_) (fun q166 => ?_)
            · skip
              exact absurd q166 (by decide)
            · skip
              refine x_iconst (v := 0) C d_Mo_nearest_169 (by decide) ?_
              refine x_goto (tgt := 180) C d_Mo_nearest_170 rfl ?_
              refine x_iret C d_Mo_nearest_180 ?_
              exact ⟨rfl, _, fm, mu, kp, g_thrown⟩
        · skip
          exact absurd q44 (by decide)
    · skip
      replace q17 := bI_t q17
      exact absurd q17 (by simp [hnt])
set_option maxRecDepth 20000 in
set_option maxHeartbeats 1000000 in
theorem m_Mo_nearest {V : xV} {h : xH} {mco mof mce N t : Nat} {c of f : Nat → Int32} {m : Nat} {fs : List Value} (fm : h m = some (.inr (8, fs))) (hlen : fs.length = 29) (g_rows : fs[4]? = some (.int (nI N))) (g_columns : fs[1]? = some (.ref mco)) (g_of : fs[2]? = some (.ref mof)) (g_cells : fs[3]? = some (.ref mce)) (fco : h mco = some (xI V 10 c)) (fof : h mof = some (xI V 400 of)) (fce : h mce = some (xI V 2400 f)) (hN : N ≤ 400) (ht : t < 10) (hth : ¬ c t ≤ 0) (vv up : Int32) : xM V y_Mo_nearest b_Mo_nearest 8 (some .int) 1 [.ref m, .int (nI t), .int vv, .int up] h 0 0 (fun v h' => ∃ fs' bs, h' m = some (.inr (8, fs')) ∧ mUp [0] fs fs' ∧ xKeep [m] h h' ∧ mBh (fun k => of k = nI t ∧ (if up = 0 then ¬ vv < f (k * 6) else ¬ f (k * 6) < vv)) (if up = 0 then 1 else 0) (fun k => f (k * 6)) N bs ∧ ((bs = -1 ∧ v = some (.int 0) ∧ fs'[0]? = some (.int 2)) ∨ ∃ kb, bs = nI kb ∧ kb < N ∧ v = some (.int (f (kb * 6))) ∧ fs'[0]? = some (.int 0))) := by
  refine xM_of false (by decide) (fun h => nomatch h) (Nat.le_of_ble_eq_true rfl) (fun K C => ?_)
  show K 0 0 h 0 [(0, .ref m), (1, .int (nI t)), (2, .int vv), (3, .int up)] []
  have kp : xKeep [m] h h := xKeep.rf
  have mu : mUp [0] fs fs := mUp.rf
  have hyes : (!decide (nI t < 0) && !decide (9 < nI t)) = true := by rw [decide_eq_false (nI_pos (by omega)), decide_eq_false (show ¬ 9 < nI t from nI_nlt (a := 9) (by omega) (by omega))]; rfl
  have loop : ∀ mq : Nat, ∀ (i : Nat) (bs : Int32), N - i < mq → i ≤ N → mBh (fun k => of k = nI t ∧ (if up = 0 then ¬ vv < f (k * 6) else ¬ f (k * 6) < vv)) (if up = 0 then 1 else 0) (fun k => f (k * 6)) i bs → K 0 0 h 33 [(6, .int (nI i)), (5, .int bs), (4, .int 1), (0, .ref m), (1, .int (nI t)), (2, .int vv), (3, .int up)] [] := by
    intro mq
    induction mq with
    | zero => intro i bs hm hi hr; omega
    | succ mq ih =>
      intro i bs hm hi hr
      refine x_iload C d_Mo_nearest_33 rfl ?_
      refine x_aload_n C d_Mo_nearest_35 rfl rfl ?_
      refine x_get C k_Mo f_Mo_159 d_Mo_nearest_36 fm g_rows ?_
      refine x_icmp_ge (tgt := 138) C d_Mo_nearest_39 rfl (fun q39 => ?_) (fun q39 => ?_)
      · skip
        have hi2 : i = N := by have := nge_of q39 (by omega); omega
        refine x_aload_n C d_Mo_nearest_138 rfl rfl ?_
        refine x_iload C d_Mo_nearest_139 rfl ?_
        refine x_if_ne (tgt := 148) C d_Mo_nearest_141 rfl (fun q141 => ?_) (fun q141 => ?_)
        · skip
          refine x_iload C d_Mo_nearest_148 rfl ?_
          refine x_iconst (v := -1) C d_Mo_nearest_150 (by decide) ?_
          refine x_icmp_ne (tgt := 158) C d_Mo_nearest_151 rfl (fun q151 => ?_) (fun q151 => ?_)
          · skip
            obtain ⟨kb, hkb, hbs, hcb, hmb⟩ := Or.resolve_left hr (fun z => q151 z.1)
            refine x_iconst (v := 0) C d_Mo_nearest_158 (by decide) ?_
            refine x_put C k_Mo f_Mo_31 d_Mo_nearest_159 fm (by rfl) (by rfl) (by rfl) (by omega) rfl (fun h1 u1 => ?_)
            have fco := xUp_ne u1 fco (by first | assumption | exact Ne.symm (by assumption) | exact x_ne fco fm (by simp))
            have fof := xUp_ne u1 fof (by first | assumption | exact Ne.symm (by assumption) | exact x_ne fof fm (by simp))
            have fce := xUp_ne u1 fce (by first | assumption | exact Ne.symm (by assumption) | exact x_ne fce fm (by simp))
            have fm := xUp_at u1
            have kp := kp.up u1 (by simp)
            have g_rows := gs_ne fm g_rows (by decide)
            have g_columns := gs_ne fm g_columns (by decide)
            have g_of := gs_ne fm g_of (by decide)
            have g_cells := gs_ne fm g_cells (by decide)
            have g_thrown := gs_eq fm hlen (by decide)
            have mu := mu.setF fm (by decide)
            have hlen := gs_len fm hlen
            refine x_aload_n C d_Mo_nearest_162 rfl rfl ?_
            refine x_get C k_Mo f_Mo_31 d_Mo_nearest_163 fm g_thrown ?_
            refine x_if_le (tgt := 173) C d_Mo_nearest_166 rfl (fun q166 => ?_) (fun q166 => ?_)
            · skip
              refine x_aload_n C d_Mo_nearest_173 rfl rfl ?_
              refine x_iload C d_Mo_nearest_174 rfl ?_
              refine x_iconst (v := 0) C d_Mo_nearest_176 (by decide) ?_
              rw [hbs]
              refine x_callV C l_Mo_151 v_Mo_cell d_Mo_nearest_177 (m_Mo_cell (r := kb) (c := 0) fm hlen g_cells fce (by omega)) fm rfl (by rfl) (by rfl) (by decide) (by decide) (Nat.le_of_ble_eq_true rfl) ?_
              rintro v9 h9 ⟨rfl, rfl⟩
              rw [Nat.add_zero]
              refine x_iret C d_Mo_nearest_180 ?_
              exact ⟨_, nI kb, fm, mu, kp, by rw [← hi2, ← hbs]; exact hr, Or.inr ⟨kb, rfl, by omega, rfl, g_thrown⟩⟩
            · skip
              exact absurd q166 (by decide)
          · skip
            refine x_iconst (v := 2) C d_Mo_nearest_154 (by decide) ?_
            refine x_goto (tgt := 159) C d_Mo_nearest_155 rfl ?_
            refine x_put C k_Mo f_Mo_31 d_Mo_nearest_159 fm (by rfl) (by rfl) (by rfl) (by omega) rfl (fun h2 u2 => ?_)
            have fco := xUp_ne u2 fco (by first | assumption | exact Ne.symm (by assumption) | exact x_ne fco fm (by simp))
            have fof := xUp_ne u2 fof (by first | assumption | exact Ne.symm (by assumption) | exact x_ne fof fm (by simp))
            have fce := xUp_ne u2 fce (by first | assumption | exact Ne.symm (by assumption) | exact x_ne fce fm (by simp))
            have fm := xUp_at u2
            have kp := kp.up u2 (by simp)
            have g_rows := gs_ne fm g_rows (by decide)
            have g_columns := gs_ne fm g_columns (by decide)
            have g_of := gs_ne fm g_of (by decide)
            have g_cells := gs_ne fm g_cells (by decide)
            have g_thrown := gs_eq fm hlen (by decide)
            have mu := mu.setF fm (by decide)
            have hlen := gs_len fm hlen
            refine x_aload_n C d_Mo_nearest_162 rfl rfl ?_
            refine x_get C k_Mo f_Mo_31 d_Mo_nearest_163 fm g_thrown ?_
            refine x_if_le (tgt := 173) C d_Mo_nearest_166 rfl (fun q166 => ?_) (fun q166 => ?_)
            · skip
              exact absurd q166 (by decide)
            · skip
              refine x_iconst (v := 0) C d_Mo_nearest_169 (by decide) ?_
              refine x_goto (tgt := 180) C d_Mo_nearest_170 rfl ?_
              refine x_iret C d_Mo_nearest_180 ?_
              exact ⟨_, bs, fm, mu, kp, by rw [← hi2]; exact hr, Or.inl ⟨q151, rfl, g_thrown⟩⟩
        · skip
          exact absurd q141 (by decide)
      · skip
        have hi2 := nlt_of q39 (by omega) (by omega)
        refine x_iload C d_Mo_nearest_42 rfl ?_
        refine x_if_eq (tgt := 138) C d_Mo_nearest_44 rfl (fun q44 => ?_) (fun q44 => ?_)
        · skip
          exact absurd q44 (by decide)
        · skip
          refine x_aload_n C d_Mo_nearest_47 rfl rfl ?_
          refine x_iload C d_Mo_nearest_48 rfl ?_
          refine x_iconst (v := 0) C d_Mo_nearest_50 (by decide) ?_
          refine x_callV C l_Mo_151 v_Mo_cell d_Mo_nearest_51 (m_Mo_cell (r := i) (c := 0) fm hlen g_cells fce (by omega)) fm rfl (by rfl) (by rfl) (by decide) (by decide) (Nat.le_of_ble_eq_true rfl) ?_
          rintro v9 h9 ⟨rfl, rfl⟩
          rw [Nat.add_zero]
          refine x_istore (lv' := [(7, _), (6, _), (5, _), (4, _), (0, _), (1, _), (2, _), (3, _)]) C d_Mo_nearest_54 (by decide) (by rfl) ?_
          refine x_aload_n C d_Mo_nearest_56 rfl rfl ?_
          refine x_get C k_Mo f_Mo_13 d_Mo_nearest_57 fm g_of ?_
          refine x_iload C d_Mo_nearest_60 rfl ?_
          refine x_iald C d_Mo_nearest_62 fof (vp_in_nI (by omega) (by decide)) ?_
          rw [nI_clamp (by omega)]
          refine x_iload_n C d_Mo_nearest_63 rfl rfl ?_
          refine x_icmp_ne (tgt := 132) C d_Mo_nearest_64 rfl (fun q64 => ?_) (fun q64 => ?_)
          · skip
            have hno : ¬ (fun k => of k = nI t ∧ (if up = 0 then ¬ vv < f (k * 6) else ¬ f (k * 6) < vv)) i := fun z => q64 z.1
            refine x_iinc (v := nI (i + 1)) (k0 := 1) (lv' := [(6, _), (7, _), (5, _), (4, _), (0, _), (1, _), (2, _), (3, _)]) C d_Mo_nearest_132 (by rfl) (nI_1 i) (by decide) (by rfl) ?_
            refine x_goto (tgt := 33) C d_Mo_nearest_135 rfl ?_
            refine x_lv (lv' := [(6, _), (5, _), (4, _), (0, _), (1, _), (2, _), (3, _)]) [0, 2, 3, 4, 5, 6, 7] C (by rfl) ?_
            first | exact ih (i + 1) _ (by omega) (by omega) (hr.skip hno) | exact ih (i + 1) _ (by omega) (by omega) (hr.take hca (Or.inl q89) (by omega)) | exact ih (i + 1) _ (by omega) (by omega) (hr.take hca (Or.inr ⟨kb, hbs, hkb, by rw [if_neg q93]; exact nrr_p rfl (Int32.not_le.mp q105)⟩) (by omega)) | exact ih (i + 1) _ (by omega) (by omega) (hr.take hca (Or.inr ⟨kb, hbs, hkb, by rw [if_pos q93]; exact nrr_n (by decide) (Int32.not_le.mp q120)⟩) (by omega)) | exact ih (i + 1) _ (by omega) (by omega) (hr.stay hbs hkb (by rw [if_neg q93]; exact nrr_pn rfl q105) (by omega)) | exact ih (i + 1) _ (by omega) (by omega) (hr.stay hbs hkb (by rw [if_pos q93]; exact nrr_nn (by decide) q120) (by omega))
          · skip
            refine x_iload_n C d_Mo_nearest_67 rfl rfl ?_
            refine x_if_eq (tgt := 80) C d_Mo_nearest_68 rfl (fun q68 => ?_) (fun q68 => ?_)
            · skip
              refine x_iload C d_Mo_nearest_80 rfl ?_
              refine x_iload_n C d_Mo_nearest_82 rfl rfl ?_
              refine x_icmp_gt (tgt := 132) C d_Mo_nearest_83 rfl (fun q83 => ?_) (fun q83 => ?_)
              · skip
                have hno : ¬ (fun k => of k = nI t ∧ (if up = 0 then ¬ vv < f (k * 6) else ¬ f (k * 6) < vv)) i := fun z => by have y := z.2; rw [if_pos q68] at y; exact y q83
                refine x_iinc (v := nI (i + 1)) (k0 := 1) (lv' := [(6, _), (7, _), (5, _), (4, _), (0, _), (1, _), (2, _), (3, _)]) C d_Mo_nearest_132 (by rfl) (nI_1 i) (by decide) (by rfl) ?_
                refine x_goto (tgt := 33) C d_Mo_nearest_135 rfl ?_
                refine x_lv (lv' := [(6, _), (5, _), (4, _), (0, _), (1, _), (2, _), (3, _)]) [0, 2, 3, 4, 5, 6, 7] C (by rfl) ?_
                first | exact ih (i + 1) _ (by omega) (by omega) (hr.skip hno) | exact ih (i + 1) _ (by omega) (by omega) (hr.take hca (Or.inl q89) (by omega)) | exact ih (i + 1) _ (by omega) (by omega) (hr.take hca (Or.inr ⟨kb, hbs, hkb, by rw [if_neg q93]; exact nrr_p rfl (Int32.not_le.mp q105)⟩) (by omega)) | exact ih (i + 1) _ (by omega) (by omega) (hr.take hca (Or.inr ⟨kb, hbs, hkb, by rw [if_pos q93]; exact nrr_n (by decide) (Int32.not_le.mp q120)⟩) (by omega)) | exact ih (i + 1) _ (by omega) (by omega) (hr.stay hbs hkb (by rw [if_neg q93]; exact nrr_pn rfl q105) (by omega)) | exact ih (i + 1) _ (by omega) (by omega) (hr.stay hbs hkb (by rw [if_pos q93]; exact nrr_nn (by decide) q120) (by omega))
              · skip
                have hca : (fun k => of k = nI t ∧ (if up = 0 then ¬ vv < f (k * 6) else ¬ f (k * 6) < vv)) i := ⟨q64, by rw [if_pos q68]; exact q83⟩
                refine x_iload C d_Mo_nearest_86 rfl ?_
                refine x_iconst (v := -1) C d_Mo_nearest_88 (by decide) ?_
                refine x_icmp_eq (tgt := 123) C d_Mo_nearest_89 rfl (fun q89 => ?_) (fun q89 => ?_)
                · skip
                  refine x_iload C d_Mo_nearest_123 rfl ?_
                  refine x_goto (tgt := 130) C d_Mo_nearest_125 rfl ?_
                  refine x_istore (lv' := [(5, _), (7, _), (6, _), (4, _), (0, _), (1, _), (2, _), (3, _)]) C d_Mo_nearest_130 (by decide) (by rfl) ?_
                  refine x_iinc (v := nI (i + 1)) (k0 := 2) (lv' := [(6, _), (5, _), (7, _), (4, _), (0, _), (1, _), (2, _), (3, _)]) C d_Mo_nearest_132 (by rfl) (nI_1 i) (by decide) (by rfl) ?_
                  refine x_goto (tgt := 33) C d_Mo_nearest_135 rfl ?_
                  refine x_lv (lv' := [(6, _), (5, _), (4, _), (0, _), (1, _), (2, _), (3, _)]) [0, 1, 3, 4, 5, 6, 7] C (by rfl) ?_
                  first | exact ih (i + 1) _ (by omega) (by omega) (hr.skip hno) | exact ih (i + 1) _ (by omega) (by omega) (hr.take hca (Or.inl q89) (by omega)) | exact ih (i + 1) _ (by omega) (by omega) (hr.take hca (Or.inr ⟨kb, hbs, hkb, by rw [if_neg q93]; exact nrr_p rfl (Int32.not_le.mp q105)⟩) (by omega)) | exact ih (i + 1) _ (by omega) (by omega) (hr.take hca (Or.inr ⟨kb, hbs, hkb, by rw [if_pos q93]; exact nrr_n (by decide) (Int32.not_le.mp q120)⟩) (by omega)) | exact ih (i + 1) _ (by omega) (by omega) (hr.stay hbs hkb (by rw [if_neg q93]; exact nrr_pn rfl q105) (by omega)) | exact ih (i + 1) _ (by omega) (by omega) (hr.stay hbs hkb (by rw [if_pos q93]; exact nrr_nn (by decide) q120) (by omega))
                · skip
                  obtain ⟨kb, hkb, hbs, hcb, hmb⟩ := Or.resolve_left hr (fun z => q89 z.1)
                  refine x_iload_n C d_Mo_nearest_92 rfl rfl ?_
                  refine x_if_eq (tgt := 111) C d_Mo_nearest_93 rfl (fun q93 => ?_) (fun q93 => ?_)
                  · skip
                    refine x_iload C d_Mo_nearest_111 rfl ?_
                    refine x_aload_n C d_Mo_nearest_113 rfl rfl ?_
                    refine x_iload C d_Mo_nearest_114 rfl ?_
                    refine x_iconst (v := 0) C d_Mo_nearest_116 (by decide) ?_
                    rw [hbs]
                    refine x_callV C l_Mo_151 v_Mo_cell d_Mo_nearest_117 (m_Mo_cell (r := kb) (c := 0) fm hlen g_cells fce (by omega)) fm rfl (by rfl) (by rfl) (by decide) (by decide) (Nat.le_of_ble_eq_true rfl) ?_
                    rintro v9 h9 ⟨rfl, rfl⟩
                    rw [Nat.add_zero]
                    refine x_icmp_le (tgt := 128) C d_Mo_nearest_120 rfl (fun q120 => ?_) (fun q120 => ?_)
                    · skip
                      refine x_iload C d_Mo_nearest_128 rfl ?_
                      refine x_istore (lv' := [(5, _), (7, _), (6, _), (4, _), (0, _), (1, _), (2, _), (3, _)]) C d_Mo_nearest_130 (by decide) (by rfl) ?_
                      refine x_iinc (v := nI (i + 1)) (k0 := 2) (lv' := [(6, _), (5, _), (7, _), (4, _), (0, _), (1, _), (2, _), (3, _)]) C d_Mo_nearest_132 (by rfl) (nI_1 i) (by decide) (by rfl) ?_
                      refine x_goto (tgt := 33) C d_Mo_nearest_135 rfl ?_
                      refine x_lv (lv' := [(6, _), (5, _), (4, _), (0, _), (1, _), (2, _), (3, _)]) [0, 1, 3, 4, 5, 6, 7] C (by rfl) ?_
                      first | exact ih (i + 1) _ (by omega) (by omega) (hr.skip hno) | exact ih (i + 1) _ (by omega) (by omega) (hr.take hca (Or.inl q89) (by omega)) | exact ih (i + 1) _ (by omega) (by omega) (hr.take hca (Or.inr ⟨kb, hbs, hkb, by rw [if_neg q93]; exact nrr_p rfl (Int32.not_le.mp q105)⟩) (by omega)) | exact ih (i + 1) _ (by omega) (by omega) (hr.take hca (Or.inr ⟨kb, hbs, hkb, by rw [if_pos q93]; exact nrr_n (by decide) (Int32.not_le.mp q120)⟩) (by omega)) | exact ih (i + 1) _ (by omega) (by omega) (hr.stay hbs hkb (by rw [if_neg q93]; exact nrr_pn rfl q105) (by omega)) | exact ih (i + 1) _ (by omega) (by omega) (hr.stay hbs hkb (by rw [if_pos q93]; exact nrr_nn (by decide) q120) (by omega))
                    · skip
                      refine x_iload C d_Mo_nearest_123 rfl ?_
                      refine x_goto (tgt := 130) C d_Mo_nearest_125 rfl ?_
                      refine x_istore (lv' := [(5, _), (7, _), (6, _), (4, _), (0, _), (1, _), (2, _), (3, _)]) C d_Mo_nearest_130 (by decide) (by rfl) ?_
                      refine x_iinc (v := nI (i + 1)) (k0 := 2) (lv' := [(6, _), (5, _), (7, _), (4, _), (0, _), (1, _), (2, _), (3, _)]) C d_Mo_nearest_132 (by rfl) (nI_1 i) (by decide) (by rfl) ?_
                      refine x_goto (tgt := 33) C d_Mo_nearest_135 rfl ?_
                      refine x_lv (lv' := [(6, _), (5, _), (4, _), (0, _), (1, _), (2, _), (3, _)]) [0, 1, 3, 4, 5, 6, 7] C (by rfl) ?_
                      first | exact ih (i + 1) _ (by omega) (by omega) (hr.skip hno) | exact ih (i + 1) _ (by omega) (by omega) (hr.take hca (Or.inl q89) (by omega)) | exact ih (i + 1) _ (by omega) (by omega) (hr.take hca (Or.inr ⟨kb, hbs, hkb, by rw [if_neg q93]; exact nrr_p rfl (Int32.not_le.mp q105)⟩) (by omega)) | exact ih (i + 1) _ (by omega) (by omega) (hr.take hca (Or.inr ⟨kb, hbs, hkb, by rw [if_pos q93]; exact nrr_n (by decide) (Int32.not_le.mp q120)⟩) (by omega)) | exact ih (i + 1) _ (by omega) (by omega) (hr.stay hbs hkb (by rw [if_neg q93]; exact nrr_pn rfl q105) (by omega)) | exact ih (i + 1) _ (by omega) (by omega) (hr.stay hbs hkb (by rw [if_pos q93]; exact nrr_nn (by decide) q120) (by omega))
                  · skip
                    refine x_iload C d_Mo_nearest_96 rfl ?_
                    refine x_aload_n C d_Mo_nearest_98 rfl rfl ?_
                    refine x_iload C d_Mo_nearest_99 rfl ?_
                    refine x_iconst (v := 0) C d_Mo_nearest_101 (by decide) ?_
                    rw [hbs]
                    refine x_callV C l_Mo_151 v_Mo_cell d_Mo_nearest_102 (m_Mo_cell (r := kb) (c := 0) fm hlen g_cells fce (by omega)) fm rfl (by rfl) (by rfl) (by decide) (by decide) (Nat.le_of_ble_eq_true rfl) ?_
                    rintro v9 h9 ⟨rfl, rfl⟩
                    rw [Nat.add_zero]
                    refine x_icmp_ge (tgt := 128) C d_Mo_nearest_105 rfl (fun q105 => ?_) (fun q105 => ?_)
                    · skip
                      refine x_iload C d_Mo_nearest_128 rfl ?_
                      refine x_istore (lv' := [(5, _), (7, _), (6, _), (4, _), (0, _), (1, _), (2, _), (3, _)]) C d_Mo_nearest_130 (by decide) (by rfl) ?_
                      refine x_iinc (v := nI (i + 1)) (k0 := 2) (lv' := [(6, _), (5, _), (7, _), (4, _), (0, _), (1, _), (2, _), (3, _)]) C d_Mo_nearest_132 (by rfl) (nI_1 i) (by decide) (by rfl) ?_
                      refine x_goto (tgt := 33) C d_Mo_nearest_135 rfl ?_
                      refine x_lv (lv' := [(6, _), (5, _), (4, _), (0, _), (1, _), (2, _), (3, _)]) [0, 1, 3, 4, 5, 6, 7] C (by rfl) ?_
                      first | exact ih (i + 1) _ (by omega) (by omega) (hr.skip hno) | exact ih (i + 1) _ (by omega) (by omega) (hr.take hca (Or.inl q89) (by omega)) | exact ih (i + 1) _ (by omega) (by omega) (hr.take hca (Or.inr ⟨kb, hbs, hkb, by rw [if_neg q93]; exact nrr_p rfl (Int32.not_le.mp q105)⟩) (by omega)) | exact ih (i + 1) _ (by omega) (by omega) (hr.take hca (Or.inr ⟨kb, hbs, hkb, by rw [if_pos q93]; exact nrr_n (by decide) (Int32.not_le.mp q120)⟩) (by omega)) | exact ih (i + 1) _ (by omega) (by omega) (hr.stay hbs hkb (by rw [if_neg q93]; exact nrr_pn rfl q105) (by omega)) | exact ih (i + 1) _ (by omega) (by omega) (hr.stay hbs hkb (by rw [if_pos q93]; exact nrr_nn (by decide) q120) (by omega))
                    · skip
                      refine x_goto (tgt := 123) C d_Mo_nearest_108 rfl ?_
                      refine x_iload C d_Mo_nearest_123 rfl ?_
                      refine x_goto (tgt := 130) C d_Mo_nearest_125 rfl ?_
                      refine x_istore (lv' := [(5, _), (7, _), (6, _), (4, _), (0, _), (1, _), (2, _), (3, _)]) C d_Mo_nearest_130 (by decide) (by rfl) ?_
                      refine x_iinc (v := nI (i + 1)) (k0 := 2) (lv' := [(6, _), (5, _), (7, _), (4, _), (0, _), (1, _), (2, _), (3, _)]) C d_Mo_nearest_132 (by rfl) (nI_1 i) (by decide) (by rfl) ?_
                      refine x_goto (tgt := 33) C d_Mo_nearest_135 rfl ?_
                      refine x_lv (lv' := [(6, _), (5, _), (4, _), (0, _), (1, _), (2, _), (3, _)]) [0, 1, 3, 4, 5, 6, 7] C (by rfl) ?_
                      first | exact ih (i + 1) _ (by omega) (by omega) (hr.skip hno) | exact ih (i + 1) _ (by omega) (by omega) (hr.take hca (Or.inl q89) (by omega)) | exact ih (i + 1) _ (by omega) (by omega) (hr.take hca (Or.inr ⟨kb, hbs, hkb, by rw [if_neg q93]; exact nrr_p rfl (Int32.not_le.mp q105)⟩) (by omega)) | exact ih (i + 1) _ (by omega) (by omega) (hr.take hca (Or.inr ⟨kb, hbs, hkb, by rw [if_pos q93]; exact nrr_n (by decide) (Int32.not_le.mp q120)⟩) (by omega)) | exact ih (i + 1) _ (by omega) (by omega) (hr.stay hbs hkb (by rw [if_neg q93]; exact nrr_pn rfl q105) (by omega)) | exact ih (i + 1) _ (by omega) (by omega) (hr.stay hbs hkb (by rw [if_pos q93]; exact nrr_nn (by decide) q120) (by omega))
            · skip
              refine x_iload C d_Mo_nearest_71 rfl ?_
              refine x_iload_n C d_Mo_nearest_73 rfl rfl ?_
              refine x_icmp_lt (tgt := 132) C d_Mo_nearest_74 rfl (fun q74 => ?_) (fun q74 => ?_)
              · skip
                have hno : ¬ (fun k => of k = nI t ∧ (if up = 0 then ¬ vv < f (k * 6) else ¬ f (k * 6) < vv)) i := fun z => by have y := z.2; rw [if_neg q68] at y; exact y q74
                refine x_iinc (v := nI (i + 1)) (k0 := 1) (lv' := [(6, _), (7, _), (5, _), (4, _), (0, _), (1, _), (2, _), (3, _)]) C d_Mo_nearest_132 (by rfl) (nI_1 i) (by decide) (by rfl) ?_
                refine x_goto (tgt := 33) C d_Mo_nearest_135 rfl ?_
                refine x_lv (lv' := [(6, _), (5, _), (4, _), (0, _), (1, _), (2, _), (3, _)]) [0, 2, 3, 4, 5, 6, 7] C (by rfl) ?_
                first | exact ih (i + 1) _ (by omega) (by omega) (hr.skip hno) | exact ih (i + 1) _ (by omega) (by omega) (hr.take hca (Or.inl q89) (by omega)) | exact ih (i + 1) _ (by omega) (by omega) (hr.take hca (Or.inr ⟨kb, hbs, hkb, by rw [if_neg q93]; exact nrr_p rfl (Int32.not_le.mp q105)⟩) (by omega)) | exact ih (i + 1) _ (by omega) (by omega) (hr.take hca (Or.inr ⟨kb, hbs, hkb, by rw [if_pos q93]; exact nrr_n (by decide) (Int32.not_le.mp q120)⟩) (by omega)) | exact ih (i + 1) _ (by omega) (by omega) (hr.stay hbs hkb (by rw [if_neg q93]; exact nrr_pn rfl q105) (by omega)) | exact ih (i + 1) _ (by omega) (by omega) (hr.stay hbs hkb (by rw [if_pos q93]; exact nrr_nn (by decide) q120) (by omega))
              · skip
                have hca : (fun k => of k = nI t ∧ (if up = 0 then ¬ vv < f (k * 6) else ¬ f (k * 6) < vv)) i := ⟨q64, by rw [if_neg q68]; exact q74⟩
                refine x_goto (tgt := 86) C d_Mo_nearest_77 rfl ?_
                refine x_iload C d_Mo_nearest_86 rfl ?_
                refine x_iconst (v := -1) C d_Mo_nearest_88 (by decide) ?_
                refine x_icmp_eq (tgt := 123) C d_Mo_nearest_89 rfl (fun q89 => ?_) (fun q89 => ?_)
                · skip
                  refine x_iload C d_Mo_nearest_123 rfl ?_
                  refine x_goto (tgt := 130) C d_Mo_nearest_125 rfl ?_
                  refine x_istore (lv' := [(5, _), (7, _), (6, _), (4, _), (0, _), (1, _), (2, _), (3, _)]) C d_Mo_nearest_130 (by decide) (by rfl) ?_
                  refine x_iinc (v := nI (i + 1)) (k0 := 2) (lv' := [(6, _), (5, _), (7, _), (4, _), (0, _), (1, _), (2, _), (3, _)]) C d_Mo_nearest_132 (by rfl) (nI_1 i) (by decide) (by rfl) ?_
                  refine x_goto (tgt := 33) C d_Mo_nearest_135 rfl ?_
                  refine x_lv (lv' := [(6, _), (5, _), (4, _), (0, _), (1, _), (2, _), (3, _)]) [0, 1, 3, 4, 5, 6, 7] C (by rfl) ?_
                  first | exact ih (i + 1) _ (by omega) (by omega) (hr.skip hno) | exact ih (i + 1) _ (by omega) (by omega) (hr.take hca (Or.inl q89) (by omega)) | exact ih (i + 1) _ (by omega) (by omega) (hr.take hca (Or.inr ⟨kb, hbs, hkb, by rw [if_neg q93]; exact nrr_p rfl (Int32.not_le.mp q105)⟩) (by omega)) | exact ih (i + 1) _ (by omega) (by omega) (hr.take hca (Or.inr ⟨kb, hbs, hkb, by rw [if_pos q93]; exact nrr_n (by decide) (Int32.not_le.mp q120)⟩) (by omega)) | exact ih (i + 1) _ (by omega) (by omega) (hr.stay hbs hkb (by rw [if_neg q93]; exact nrr_pn rfl q105) (by omega)) | exact ih (i + 1) _ (by omega) (by omega) (hr.stay hbs hkb (by rw [if_pos q93]; exact nrr_nn (by decide) q120) (by omega))
                · skip
                  obtain ⟨kb, hkb, hbs, hcb, hmb⟩ := Or.resolve_left hr (fun z => q89 z.1)
                  refine x_iload_n C d_Mo_nearest_92 rfl rfl ?_
                  refine x_if_eq (tgt := 111) C d_Mo_nearest_93 rfl (fun q93 => ?_) (fun q93 => ?_)
                  · skip
                    refine x_iload C d_Mo_nearest_111 rfl ?_
                    refine x_aload_n C d_Mo_nearest_113 rfl rfl ?_
                    refine x_iload C d_Mo_nearest_114 rfl ?_
                    refine x_iconst (v := 0) C d_Mo_nearest_116 (by decide) ?_
                    rw [hbs]
                    refine x_callV C l_Mo_151 v_Mo_cell d_Mo_nearest_117 (m_Mo_cell (r := kb) (c := 0) fm hlen g_cells fce (by omega)) fm rfl (by rfl) (by rfl) (by decide) (by decide) (Nat.le_of_ble_eq_true rfl) ?_
                    rintro v9 h9 ⟨rfl, rfl⟩
                    rw [Nat.add_zero]
                    refine x_icmp_le (tgt := 128) C d_Mo_nearest_120 rfl (fun q120 => ?_) (fun q120 => ?_)
                    · skip
                      refine x_iload C d_Mo_nearest_128 rfl ?_
                      refine x_istore (lv' := [(5, _), (7, _), (6, _), (4, _), (0, _), (1, _), (2, _), (3, _)]) C d_Mo_nearest_130 (by decide) (by rfl) ?_
                      refine x_iinc (v := nI (i + 1)) (k0 := 2) (lv' := [(6, _), (5, _), (7, _), (4, _), (0, _), (1, _), (2, _), (3, _)]) C d_Mo_nearest_132 (by rfl) (nI_1 i) (by decide) (by rfl) ?_
                      refine x_goto (tgt := 33) C d_Mo_nearest_135 rfl ?_
                      refine x_lv (lv' := [(6, _), (5, _), (4, _), (0, _), (1, _), (2, _), (3, _)]) [0, 1, 3, 4, 5, 6, 7] C (by rfl) ?_
                      first | exact ih (i + 1) _ (by omega) (by omega) (hr.skip hno) | exact ih (i + 1) _ (by omega) (by omega) (hr.take hca (Or.inl q89) (by omega)) | exact ih (i + 1) _ (by omega) (by omega) (hr.take hca (Or.inr ⟨kb, hbs, hkb, by rw [if_neg q93]; exact nrr_p rfl (Int32.not_le.mp q105)⟩) (by omega)) | exact ih (i + 1) _ (by omega) (by omega) (hr.take hca (Or.inr ⟨kb, hbs, hkb, by rw [if_pos q93]; exact nrr_n (by decide) (Int32.not_le.mp q120)⟩) (by omega)) | exact ih (i + 1) _ (by omega) (by omega) (hr.stay hbs hkb (by rw [if_neg q93]; exact nrr_pn rfl q105) (by omega)) | exact ih (i + 1) _ (by omega) (by omega) (hr.stay hbs hkb (by rw [if_pos q93]; exact nrr_nn (by decide) q120) (by omega))
                    · skip
                      refine x_iload C d_Mo_nearest_123 rfl ?_
                      refine x_goto (tgt := 130) C d_Mo_nearest_125 rfl ?_
                      refine x_istore (lv' := [(5, _), (7, _), (6, _), (4, _), (0, _), (1, _), (2, _), (3, _)]) C d_Mo_nearest_130 (by decide) (by rfl) ?_
                      refine x_iinc (v := nI (i + 1)) (k0 := 2) (lv' := [(6, _), (5, _), (7, _), (4, _), (0, _), (1, _), (2, _), (3, _)]) C d_Mo_nearest_132 (by rfl) (nI_1 i) (by decide) (by rfl) ?_
                      refine x_goto (tgt := 33) C d_Mo_nearest_135 rfl ?_
                      refine x_lv (lv' := [(6, _), (5, _), (4, _), (0, _), (1, _), (2, _), (3, _)]) [0, 1, 3, 4, 5, 6, 7] C (by rfl) ?_
                      first | exact ih (i + 1) _ (by omega) (by omega) (hr.skip hno) | exact ih (i + 1) _ (by omega) (by omega) (hr.take hca (Or.inl q89) (by omega)) | exact ih (i + 1) _ (by omega) (by omega) (hr.take hca (Or.inr ⟨kb, hbs, hkb, by rw [if_neg q93]; exact nrr_p rfl (Int32.not_le.mp q105)⟩) (by omega)) | exact ih (i + 1) _ (by omega) (by omega) (hr.take hca (Or.inr ⟨kb, hbs, hkb, by rw [if_pos q93]; exact nrr_n (by decide) (Int32.not_le.mp q120)⟩) (by omega)) | exact ih (i + 1) _ (by omega) (by omega) (hr.stay hbs hkb (by rw [if_neg q93]; exact nrr_pn rfl q105) (by omega)) | exact ih (i + 1) _ (by omega) (by omega) (hr.stay hbs hkb (by rw [if_pos q93]; exact nrr_nn (by decide) q120) (by omega))
                  · skip
                    refine x_iload C d_Mo_nearest_96 rfl ?_
                    refine x_aload_n C d_Mo_nearest_98 rfl rfl ?_
                    refine x_iload C d_Mo_nearest_99 rfl ?_
                    refine x_iconst (v := 0) C d_Mo_nearest_101 (by decide) ?_
                    rw [hbs]
                    refine x_callV C l_Mo_151 v_Mo_cell d_Mo_nearest_102 (m_Mo_cell (r := kb) (c := 0) fm hlen g_cells fce (by omega)) fm rfl (by rfl) (by rfl) (by decide) (by decide) (Nat.le_of_ble_eq_true rfl) ?_
                    rintro v9 h9 ⟨rfl, rfl⟩
                    rw [Nat.add_zero]
                    refine x_icmp_ge (tgt := 128) C d_Mo_nearest_105 rfl (fun q105 => ?_) (fun q105 => ?_)
                    · skip
                      refine x_iload C d_Mo_nearest_128 rfl ?_
                      refine x_istore (lv' := [(5, _), (7, _), (6, _), (4, _), (0, _), (1, _), (2, _), (3, _)]) C d_Mo_nearest_130 (by decide) (by rfl) ?_
                      refine x_iinc (v := nI (i + 1)) (k0 := 2) (lv' := [(6, _), (5, _), (7, _), (4, _), (0, _), (1, _), (2, _), (3, _)]) C d_Mo_nearest_132 (by rfl) (nI_1 i) (by decide) (by rfl) ?_
                      refine x_goto (tgt := 33) C d_Mo_nearest_135 rfl ?_
                      refine x_lv (lv' := [(6, _), (5, _), (4, _), (0, _), (1, _), (2, _), (3, _)]) [0, 1, 3, 4, 5, 6, 7] C (by rfl) ?_
                      first | exact ih (i + 1) _ (by omega) (by omega) (hr.skip hno) | exact ih (i + 1) _ (by omega) (by omega) (hr.take hca (Or.inl q89) (by omega)) | exact ih (i + 1) _ (by omega) (by omega) (hr.take hca (Or.inr ⟨kb, hbs, hkb, by rw [if_neg q93]; exact nrr_p rfl (Int32.not_le.mp q105)⟩) (by omega)) | exact ih (i + 1) _ (by omega) (by omega) (hr.take hca (Or.inr ⟨kb, hbs, hkb, by rw [if_pos q93]; exact nrr_n (by decide) (Int32.not_le.mp q120)⟩) (by omega)) | exact ih (i + 1) _ (by omega) (by omega) (hr.stay hbs hkb (by rw [if_neg q93]; exact nrr_pn rfl q105) (by omega)) | exact ih (i + 1) _ (by omega) (by omega) (hr.stay hbs hkb (by rw [if_pos q93]; exact nrr_nn (by decide) q120) (by omega))
                    · skip
                      refine x_goto (tgt := 123) C d_Mo_nearest_108 rfl ?_
                      refine x_iload C d_Mo_nearest_123 rfl ?_
                      refine x_goto (tgt := 130) C d_Mo_nearest_125 rfl ?_
                      refine x_istore (lv' := [(5, _), (7, _), (6, _), (4, _), (0, _), (1, _), (2, _), (3, _)]) C d_Mo_nearest_130 (by decide) (by rfl) ?_
                      refine x_iinc (v := nI (i + 1)) (k0 := 2) (lv' := [(6, _), (5, _), (7, _), (4, _), (0, _), (1, _), (2, _), (3, _)]) C d_Mo_nearest_132 (by rfl) (nI_1 i) (by decide) (by rfl) ?_
                      refine x_goto (tgt := 33) C d_Mo_nearest_135 rfl ?_
                      refine x_lv (lv' := [(6, _), (5, _), (4, _), (0, _), (1, _), (2, _), (3, _)]) [0, 1, 3, 4, 5, 6, 7] C (by rfl) ?_
                      first | exact ih (i + 1) _ (by omega) (by omega) (hr.skip hno) | exact ih (i + 1) _ (by omega) (by omega) (hr.take hca (Or.inl q89) (by omega)) | exact ih (i + 1) _ (by omega) (by omega) (hr.take hca (Or.inr ⟨kb, hbs, hkb, by rw [if_neg q93]; exact nrr_p rfl (Int32.not_le.mp q105)⟩) (by omega)) | exact ih (i + 1) _ (by omega) (by omega) (hr.take hca (Or.inr ⟨kb, hbs, hkb, by rw [if_pos q93]; exact nrr_n (by decide) (Int32.not_le.mp q120)⟩) (by omega)) | exact ih (i + 1) _ (by omega) (by omega) (hr.stay hbs hkb (by rw [if_neg q93]; exact nrr_pn rfl q105) (by omega)) | exact ih (i + 1) _ (by omega) (by omega) (hr.stay hbs hkb (by rw [if_pos q93]; exact nrr_nn (by decide) q120) (by omega))
  refine x_iload_n C d_Mo_nearest_0 rfl rfl ?_
  refine x_i2l C d_Mo_nearest_1 ?_
  refine x_lconst (v := 0) C d_Mo_nearest_2 (by decide) ?_
  refine x_ldc2 C q_Mo_41 d_Mo_nearest_3 ?_
  refine x_callS C l_Mo_37 v_Mo_in d_Mo_nearest_6 (m_Mo_in (nI t).toInt64 0 9) (by rfl) (by rfl) (by decide) (by decide) (Nat.le_of_ble_eq_true rfl) ?_
  rintro v9 h9 ⟨rfl, rfl⟩
  rw [lc_in (a := 0) (b := 9) (by decide) (by decide), hyes]
  refine x_if_eq (tgt := 24) C d_Mo_nearest_9 rfl (fun q9 => ?_) (fun q9 => ?_)
  · skip
    replace q9 := bI_f q9
    exact absurd q9 (by decide)
  · skip
    replace q9 := bI_t q9
    refine x_aload_n C d_Mo_nearest_12 rfl rfl ?_
    refine x_iload_n C d_Mo_nearest_13 rfl rfl ?_
    refine x_callV C l_Mo_101 v_Mo_isThere d_Mo_nearest_14 (m_Mo_isThere (t := t) fm hlen g_columns fco ht) fm rfl (by rfl) (by rfl) (by decide) (by decide) (Nat.le_of_ble_eq_true rfl) ?_
    rintro v9 h9 ⟨rfl, rfl⟩
    refine x_if_eq (tgt := 24) C d_Mo_nearest_17 rfl (fun q17 => ?_) (fun q17 => ?_)
    · skip
      replace q17 := bI_f q17
      exact absurd q17 (by simp [hth])
    · skip
      replace q17 := bI_t q17
      refine x_iconst (v := 1) C d_Mo_nearest_20 (by decide) ?_
      refine x_goto (tgt := 25) C d_Mo_nearest_21 rfl ?_
      refine x_istore (lv' := [(4, _), (0, _), (1, _), (2, _), (3, _)]) C d_Mo_nearest_25 (by decide) (by rfl) ?_
      refine x_iconst (v := -1) C d_Mo_nearest_27 (by decide) ?_
      refine x_istore (lv' := [(5, _), (4, _), (0, _), (1, _), (2, _), (3, _)]) C d_Mo_nearest_28 (by decide) (by rfl) ?_
      refine x_iconst (v := 0) C d_Mo_nearest_30 (by decide) ?_
      refine x_istore (lv' := [(6, _), (5, _), (4, _), (0, _), (1, _), (2, _), (3, _)]) C d_Mo_nearest_31 (by decide) (by rfl) ?_
      exact loop (N + 1) 0 (-1) (by omega) (by omega) (Or.inl ⟨rfl, lt_0⟩)
