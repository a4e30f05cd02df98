/-! CursorBaseModel: step -/
set_option maxRecDepth 20000 in
set_option maxHeartbeats 1000000 in
theorem m_Mo_stepN {V : xV} {h : xH} {m : Nat} {fs : List Value} (fm : h m = some (.inr (8, fs))) (hlen : fs.length = 29) (g_there : fs[11]? = some (.int 0)) : xM V y_Mo_step b_Mo_step 1 (some .int) 0 [.ref m] h 0 0 (fun v h' => v = some (.int 0) ∧ ∃ fs', h' m = some (.inr (8, fs')) ∧ mUp [0] fs fs' ∧ xKeep [m] h h' ∧ fs'[0]? = some (.int 1)) := by
  refine xM_of false (by decide) (fun h => nomatch h) (Nat.le_of_ble_eq_true rfl) (fun K C => ?_)
  show K 0 0 h 0 [(0, .ref m)] []
  have kp : xKeep [m] h h := xKeep.rf
  have mu : mUp [0] fs fs := mUp.rf
  refine x_aload_n C d_Mo_step_0 rfl rfl ?_
  refine x_aload_n C d_Mo_step_1 rfl rfl ?_
  refine x_get C k_Mo f_Mo_130 d_Mo_step_2 fm g_there ?_
  refine x_if_eq (tgt := 12) C d_Mo_step_5 rfl (fun q5 => ?_) (fun q5 => ?_)
  · skip
    refine x_iconst (v := 1) C d_Mo_step_12 (by decide) ?_
    refine x_put C k_Mo f_Mo_31 d_Mo_step_13 fm (by rfl) (by rfl) (by rfl) (by omega) rfl (fun h1 u1 => ?_)
    have fm := xUp_at u1
    have kp := kp.up u1 (by simp)
    have g_there := gs_ne fm g_there (by decide)
    have g_thrown := gs_eq fm hlen (by decide)
    have mu := mu.setF fm (by decide)
    have hlen := gs_len fm hlen
    refine x_aload_n C d_Mo_step_16 rfl rfl ?_
    refine x_get C k_Mo f_Mo_130 d_Mo_step_17 fm g_there ?_
    refine x_if_ne (tgt := 25) C d_Mo_step_20 rfl (fun q20 => ?_) (fun q20 => ?_)
    · skip
      exact absurd rfl q20
    · skip
      refine x_iconst (v := 0) C d_Mo_step_23 (by decide) ?_
      refine x_iret C d_Mo_step_24 ?_
      exact ⟨rfl, _, fm, mu, kp, g_thrown⟩
  · skip
    exact absurd rfl q5
set_option maxRecDepth 20000 in
set_option maxHeartbeats 1000000 in
theorem m_Mo_stepE {V : xV} {h : xH} {m : Nat} {fs : List Value} (fm : h m = some (.inr (8, fs))) (hlen : fs.length = 29) (g_there : fs[11]? = some (.int 1)) (g_state : fs[17]? = some (.int 1)) : xM V y_Mo_step b_Mo_step 1 (some .int) 0 [.ref m] h 0 0 (fun v h' => v = some (.int 0) ∧ ∃ fs', h' m = some (.inr (8, fs')) ∧ mUp [0, 21] fs fs' ∧ xKeep [m] h h' ∧ fs'[0]? = some (.int 0) ∧ fs'[21]? = some (.int 0)) := by
  refine xM_of false (by decide) (fun h => nomatch h) (Nat.le_of_ble_eq_true rfl) (fun K C => ?_)
  show K 0 0 h 0 [(0, .ref m)] []
  have kp : xKeep [m] h h := xKeep.rf
  have mu : mUp [0, 21] fs fs := mUp.rf
  refine x_aload_n C d_Mo_step_0 rfl rfl ?_
  refine x_aload_n C d_Mo_step_1 rfl rfl ?_
  refine x_get C k_Mo f_Mo_130 d_Mo_step_2 fm g_there ?_
  refine x_if_eq (tgt := 12) C d_Mo_step_5 rfl (fun q5 => ?_) (fun q5 => ?_)
  · skip
    exact absurd q5 (by decide)
  · skip
    refine x_iconst (v := 0) C d_Mo_step_8 (by decide) ?_
    refine x_goto (tgt := 13) C d_Mo_step_9 rfl ?_
    refine x_put C k_Mo f_Mo_31 d_Mo_step_13 fm (by rfl) (by rfl) (by rfl) (by omega) rfl (fun h1 u1 => ?_)
    have fm := xUp_at u1
    have kp := kp.up u1 (by simp)
    have g_there := gs_ne fm g_there (by decide)
    have g_state := gs_ne fm g_state (by decide)
    have g_thrown := gs_eq fm hlen (by decide)
    have mu := mu.setF fm (by decide)
    have hlen := gs_len fm hlen
    refine x_aload_n C d_Mo_step_16 rfl rfl ?_
    refine x_get C k_Mo f_Mo_130 d_Mo_step_17 fm g_there ?_
    refine x_if_ne (tgt := 25) C d_Mo_step_20 rfl (fun q20 => ?_) (fun q20 => ?_)
    · skip
      refine x_aload_n C d_Mo_step_25 rfl rfl ?_
      refine x_iconst (v := 0) C d_Mo_step_26 (by decide) ?_
      refine x_put C k_Mo f_Mo_148 d_Mo_step_27 fm (by rfl) (by rfl) (by rfl) (by omega) rfl (fun h2 u2 => ?_)
      have fm := xUp_at u2
      have kp := kp.up u2 (by simp)
      have g_there := gs_ne fm g_there (by decide)
      have g_state := gs_ne fm g_state (by decide)
      have g_thrown := gs_ne fm g_thrown (by decide)
      have g_row := gs_eq fm hlen (by decide)
      have mu := mu.setF fm (by decide)
      have hlen := gs_len fm hlen
      refine x_aload_n C d_Mo_step_30 rfl rfl ?_
      refine x_get C k_Mo f_Mo_136 d_Mo_step_31 fm g_state ?_
      refine x_iconst (v := 1) C d_Mo_step_34 (by decide) ?_
      refine x_icmp_ne (tgt := 40) C d_Mo_step_35 rfl (fun q35 => ?_) (fun q35 => ?_)
      · skip
        exact absurd rfl q35
      · skip
        refine x_iconst (v := 0) C d_Mo_step_38 (by decide) ?_
        refine x_iret C d_Mo_step_39 ?_
        exact ⟨rfl, _, fm, mu, kp, g_thrown, g_row⟩
    · skip
      exact absurd q20 (by decide)
set_option maxRecDepth 20000 in
set_option maxHeartbeats 1000000 in
theorem m_Mo_stepC {V : xV} {h : xH} {mco mhn t1 : Nat} {c hn : Nat → Int32} {m : Nat} {fs : List Value} (fm : h m = some (.inr (8, fs))) (hlen : fs.length = 29) (g_there : fs[11]? = some (.int 1)) (g_state : fs[17]? = some (.int 0)) (g_columns : fs[1]? = some (.ref mco)) (g_hadNumbers : fs[9]? = some (.ref mhn)) (g_first : fs[12]? = some (.int (nI t1))) (fco : h mco = some (xI V 10 c)) (fhn : h mhn = some (xI V 60 hn)) (ht1 : t1 < 10) (hv : hn 0 = 0) : xM V y_Mo_step b_Mo_step 1 (some .int) 2 [.ref m] h 0 0 (fun v h' => ∃ fs' c' an, v = some (.int an) ∧ h' m = some (.inr (8, fs')) ∧ mUp [0, 17, 21] fs fs' ∧ h' mco = some (xI V 10 c') ∧ xKeep [m, mco] h h' ∧ fs'[0]? = some (.int 0) ∧ fs'[21]? = some (.int 0) ∧ fs'[17]? = some (.int 1) ∧ ((¬ c t1 ≤ 0 ∧ an = -3 ∧ c' = c) ∨ (c t1 ≤ 0 ∧ an = 0 ∧ c' = upd c t1 (hn 2)))) := by
  refine xM_of false (by decide) (fun h => nomatch h) (Nat.le_of_ble_eq_true rfl) (fun K C => ?_)
  show K 0 0 h 0 [(0, .ref m)] []
  have kp : xKeep [m, mco] h h := xKeep.rf
  have mu : mUp [0, 17, 21] fs fs := mUp.rf
  refine x_aload_n C d_Mo_step_0 rfl rfl ?_
  refine x_aload_n C d_Mo_step_1 rfl rfl ?_
  refine x_get C k_Mo f_Mo_130 d_Mo_step_2 fm g_there ?_
  refine x_if_eq (tgt := 12) C d_Mo_step_5 rfl (fun q5 => ?_) (fun q5 => ?_)
  · skip
    exact absurd q5 (by decide)
  · skip
    refine x_iconst (v := 0) C d_Mo_step_8 (by decide) ?_
    refine x_goto (tgt := 13) C d_Mo_step_9 rfl ?_
    refine x_put C k_Mo f_Mo_31 d_Mo_step_13 fm (by rfl) (by rfl) (by rfl) (by omega) rfl (fun h1 u1 => ?_)
    have fco := xUp_ne u1 fco (by first | assumption | exact Ne.symm (by assumption) | exact x_ne fco fm (by simp))
    have fhn := xUp_ne u1 fhn (by first | assumption | exact Ne.symm (by assumption) | exact x_ne fhn fm (by simp))
    have fm := xUp_at u1
    have kp := kp.up u1 (by simp)
    have g_there := gs_ne fm g_there (by decide)
    have g_state := gs_ne fm g_state (by decide)
    have g_columns := gs_ne fm g_columns (by decide)
    have g_hadNumbers := gs_ne fm g_hadNumbers (by decide)
    have g_first := gs_ne fm g_first (by decide)
    have g_thrown := gs_eq fm hlen (by decide)
    have mu := mu.setF fm (by decide)
    have hlen := gs_len fm hlen
    refine x_aload_n C d_Mo_step_16 rfl rfl ?_
    refine x_get C k_Mo f_Mo_130 d_Mo_step_17 fm g_there ?_
    refine x_if_ne (tgt := 25) C d_Mo_step_20 rfl (fun q20 => ?_) (fun q20 => ?_)
    · skip
      refine x_aload_n C d_Mo_step_25 rfl rfl ?_
      refine x_iconst (v := 0) C d_Mo_step_26 (by decide) ?_
      refine x_put C k_Mo f_Mo_148 d_Mo_step_27 fm (by rfl) (by rfl) (by rfl) (by omega) rfl (fun h2 u2 => ?_)
      have fco := xUp_ne u2 fco (by first | assumption | exact Ne.symm (by assumption) | exact x_ne fco fm (by simp))
      have fhn := xUp_ne u2 fhn (by first | assumption | exact Ne.symm (by assumption) | exact x_ne fhn fm (by simp))
      have fm := xUp_at u2
      have kp := kp.up u2 (by simp)
      have g_there := gs_ne fm g_there (by decide)
      have g_state := gs_ne fm g_state (by decide)
      have g_columns := gs_ne fm g_columns (by decide)
      have g_hadNumbers := gs_ne fm g_hadNumbers (by decide)
      have g_first := gs_ne fm g_first (by decide)
      have g_thrown := gs_ne fm g_thrown (by decide)
      have g_row := gs_eq fm hlen (by decide)
      have mu := mu.setF fm (by decide)
      have hlen := gs_len fm hlen
      refine x_aload_n C d_Mo_step_30 rfl rfl ?_
      refine x_get C k_Mo f_Mo_136 d_Mo_step_31 fm g_state ?_
      refine x_iconst (v := 1) C d_Mo_step_34 (by decide) ?_
      refine x_icmp_ne (tgt := 40) C d_Mo_step_35 rfl (fun q35 => ?_) (fun q35 => ?_)
      · skip
        refine x_aload_n C d_Mo_step_40 rfl rfl ?_
        refine x_get C k_Mo f_Mo_28 d_Mo_step_41 fm g_hadNumbers ?_
        refine x_iconst (v := 0) C d_Mo_step_44 (by decide) ?_
        refine x_iald C d_Mo_step_45 fhn (vp_in_nI (n := 0) (by decide) (by decide)) ?_
        rw [show (0 : Int32).toNatClampNeg = 0 by decide]
        refine x_iconst (v := 3) C d_Mo_step_46 (by decide) ?_
        refine x_icmp_ne (tgt := 55) C d_Mo_step_47 rfl (fun q47 => ?_) (fun q47 => ?_)
        · skip
          refine x_aload_n C d_Mo_step_55 rfl rfl ?_
          refine x_iconst (v := 1) C d_Mo_step_56 (by decide) ?_
          refine x_put C k_Mo f_Mo_136 d_Mo_step_57 fm (by rfl) (by rfl) (by rfl) (by omega) rfl (fun h3 u3 => ?_)
          have fco := xUp_ne u3 fco (by first | assumption | exact Ne.symm (by assumption) | exact x_ne fco fm (by simp))
          have fhn := xUp_ne u3 fhn (by first | assumption | exact Ne.symm (by assumption) | exact x_ne fhn fm (by simp))
          have fm := xUp_at u3
          have kp := kp.up u3 (by simp)
          have g_there := gs_ne fm g_there (by decide)
          have g_columns := gs_ne fm g_columns (by decide)
          have g_hadNumbers := gs_ne fm g_hadNumbers (by decide)
          have g_first := gs_ne fm g_first (by decide)
          have g_thrown := gs_ne fm g_thrown (by decide)
          have g_row := gs_ne fm g_row (by decide)
          have g_state := gs_eq fm hlen (by decide)
          have mu := mu.setF fm (by decide)
          have hlen := gs_len fm hlen
          refine x_aload_n C d_Mo_step_60 rfl rfl ?_
          refine x_get C k_Mo f_Mo_28 d_Mo_step_61 fm g_hadNumbers ?_
          refine x_iconst (v := 0) C d_Mo_step_64 (by decide) ?_
          refine x_iald C d_Mo_step_65 fhn (vp_in_nI (n := 0) (by decide) (by decide)) ?_
          rw [show (0 : Int32).toNatClampNeg = 0 by decide]
          refine x_if_ne (tgt := 76) C d_Mo_step_66 rfl (fun q66 => ?_) (fun q66 => ?_)
          · skip
            exact absurd hv q66
          · skip
            refine x_aload_n C d_Mo_step_69 rfl rfl ?_
            refine x_callV C l_Mo_188 v_Mo_creates d_Mo_step_70 (m_Mo_creates fm hlen g_columns g_hadNumbers g_first fco fhn ht1) fm rfl (by rfl) (by rfl) (by decide) (by decide) (Nat.le_of_ble_eq_true rfl) ?_
            rintro v4 h4 ⟨c9, an, rfl, fco', kp4, hD⟩
            have fm := kp4.get fm (nm_c (by first | assumption | exact Ne.symm (by assumption) | exact x_ne fm fco (by simp)) nm_n)
            have fhn := kp4.get fhn (nm_c (by first | assumption | exact Ne.symm (by assumption) | exact x_ne fhn fco (by simp)) nm_n)
            have kp := kp.call kp4 (kc_c (Or.inl (by simp)) kc_n)
            have fco := fco'
            refine x_goto (tgt := 97) C d_Mo_step_73 rfl ?_
            refine x_iret C d_Mo_step_97 ?_
            exact ⟨_, c9, an, rfl, fm, mu, fco, kp, g_thrown, g_row, g_state, hD⟩
        · skip
          exact absurd (hv.symm.trans q47) (by decide)
      · skip
        exact absurd q35 (by decide)
    · skip
      exact absurd q20 (by decide)
set_option maxRecDepth 20000 in
set_option maxHeartbeats 1000000 in
theorem m_Mo_stepI {V : xV} {h : xH} {mco mhn mof mce N t1 cN : Nat} {c hn of f : Nat → Int32} {m : Nat} {fs : List Value} (fm : h m = some (.inr (8, fs))) (hlen : fs.length = 29) (g_there : fs[11]? = some (.int 1)) (g_state : fs[17]? = some (.int 0)) (g_columns : fs[1]? = some (.ref mco)) (g_hadNumbers : fs[9]? = some (.ref mhn)) (g_of : fs[2]? = some (.ref mof)) (g_cells : fs[3]? = some (.ref mce)) (g_rows : fs[4]? = some (.int (nI N))) (g_first : fs[12]? = some (.int (nI t1))) (fco : h mco = some (xI V 10 c)) (fhn : h mhn = some (xI V 60 hn)) (fof : h mof = some (xI V 400 of)) (fce : h mce = some (xI V 2400 f)) (hN : N ≤ 400) (ht1 : t1 < 10) (hcN : c t1 = nI cN) (hc6 : cN ≤ 6) (hv : hn 0 = 1) : xM V y_Mo_step b_Mo_step 1 (some .int) 3 [.ref m] h 0 0 (fun v h' => ∃ fs' of' f' an, v = some (.int an) ∧ h' m = some (.inr (8, fs')) ∧ mUp [0, 17, 21, 4] fs fs' ∧ h' mof = some (xI V 400 of') ∧ h' mce = some (xI V 2400 f') ∧ xKeep [m, mof, mce] h h' ∧ fs'[0]? = some (.int 0) ∧ fs'[21]? = some (.int 0) ∧ fs'[17]? = some (.int 1) ∧ (((∃ k, k < N ∧ of k = nI t1 ∧ f (k * 6) = hn 2) ∧ an = -1 ∧ of' = of ∧ f' = f ∧ fs'[4]? = some (.int (nI N))) ∨ (¬ (∃ k, k < N ∧ of k = nI t1 ∧ f (k * 6) = hn 2) ∧ N = 400 ∧ an = -2 ∧ of' = of ∧ f' = f ∧ fs'[4]? = some (.int (nI N))) ∨ (¬ (∃ k, k < N ∧ of k = nI t1 ∧ f (k * 6) = hn 2) ∧ N < 400 ∧ an = 0 ∧ of' = upd of N (nI t1) ∧ (∀ q, q < N * 6 → f' q = f q) ∧ (∀ k, k < cN → f' (N * 6 + k) = hn (2 + k)) ∧ fs'[4]? = some (.int (nI (N + 1)))))) := by
  refine xM_of false (by decide) (fun h => nomatch h) (Nat.le_of_ble_eq_true rfl) (fun K C => ?_)
  show K 0 0 h 0 [(0, .ref m)] []
  have kp : xKeep [m, mof, mce] h h := xKeep.rf
  have mu : mUp [0, 17, 21, 4] fs fs := mUp.rf
  refine x_aload_n C d_Mo_step_0 rfl rfl ?_
  refine x_aload_n C d_Mo_step_1 rfl rfl ?_
  refine x_get C k_Mo f_Mo_130 d_Mo_step_2 fm g_there ?_
  refine x_if_eq (tgt := 12) C d_Mo_step_5 rfl (fun q5 => ?_) (fun q5 => ?_)
  · skip
    exact absurd q5 (by decide)
  · skip
    refine x_iconst (v := 0) C d_Mo_step_8 (by decide) ?_
    refine x_goto (tgt := 13) C d_Mo_step_9 rfl ?_
    refine x_put C k_Mo f_Mo_31 d_Mo_step_13 fm (by rfl) (by rfl) (by rfl) (by omega) rfl (fun h1 u1 => ?_)
    have fco := xUp_ne u1 fco (by first | assumption | exact Ne.symm (by assumption) | exact x_ne fco fm (by simp))
    have fhn := xUp_ne u1 fhn (by first | assumption | exact Ne.symm (by assumption) | exact x_ne fhn fm (by simp))
    have fof := xUp_ne u1 fof (by first | assumption | exact Ne.symm (by assumption) | exact x_ne fof fm (by simp))
    have fce := xUp_ne u1 fce (by first | assumption | exact Ne.symm (by assumption) | exact x_ne fce fm (by simp))
    have fm := xUp_at u1
    have kp := kp.up u1 (by simp)
    have g_there := gs_ne fm g_there (by decide)
    have g_state := gs_ne fm g_state (by decide)
    have g_columns := gs_ne fm g_columns (by decide)
    have g_hadNumbers := gs_ne fm g_hadNumbers (by decide)
    have g_of := gs_ne fm g_of (by decide)
    have g_cells := gs_ne fm g_cells (by decide)
    have g_rows := gs_ne fm g_rows (by decide)
    have g_first := gs_ne fm g_first (by decide)
    have g_thrown := gs_eq fm hlen (by decide)
    have mu := mu.setF fm (by decide)
    have hlen := gs_len fm hlen
    refine x_aload_n C d_Mo_step_16 rfl rfl ?_
    refine x_get C k_Mo f_Mo_130 d_Mo_step_17 fm g_there ?_
    refine x_if_ne (tgt := 25) C d_Mo_step_20 rfl (fun q20 => ?_) (fun q20 => ?_)
    · skip
      refine x_aload_n C d_Mo_step_25 rfl rfl ?_
      refine x_iconst (v := 0) C d_Mo_step_26 (by decide) ?_
      refine x_put C k_Mo f_Mo_148 d_Mo_step_27 fm (by rfl) (by rfl) (by rfl) (by omega) rfl (fun h2 u2 => ?_)
      have fco := xUp_ne u2 fco (by first | assumption | exact Ne.symm (by assumption) | exact x_ne fco fm (by simp))
      have fhn := xUp_ne u2 fhn (by first | assumption | exact Ne.symm (by assumption) | exact x_ne fhn fm (by simp))
      have fof := xUp_ne u2 fof (by first | assumption | exact Ne.symm (by assumption) | exact x_ne fof fm (by simp))
      have fce := xUp_ne u2 fce (by first | assumption | exact Ne.symm (by assumption) | exact x_ne fce fm (by simp))
      have fm := xUp_at u2
      have kp := kp.up u2 (by simp)
      have g_there := gs_ne fm g_there (by decide)
      have g_state := gs_ne fm g_state (by decide)
      have g_columns := gs_ne fm g_columns (by decide)
      have g_hadNumbers := gs_ne fm g_hadNumbers (by decide)
      have g_of := gs_ne fm g_of (by decide)
      have g_cells := gs_ne fm g_cells (by decide)
      have g_rows := gs_ne fm g_rows (by decide)
      have g_first := gs_ne fm g_first (by decide)
      have g_thrown := gs_ne fm g_thrown (by decide)
      have g_row := gs_eq fm hlen (by decide)
      have mu := mu.setF fm (by decide)
      have hlen := gs_len fm hlen
      refine x_aload_n C d_Mo_step_30 rfl rfl ?_
      refine x_get C k_Mo f_Mo_136 d_Mo_step_31 fm g_state ?_
      refine x_iconst (v := 1) C d_Mo_step_34 (by decide) ?_
      refine x_icmp_ne (tgt := 40) C d_Mo_step_35 rfl (fun q35 => ?_) (fun q35 => ?_)
      · skip
        refine x_aload_n C d_Mo_step_40 rfl rfl ?_
        refine x_get C k_Mo f_Mo_28 d_Mo_step_41 fm g_hadNumbers ?_
        refine x_iconst (v := 0) C d_Mo_step_44 (by decide) ?_
        refine x_iald C d_Mo_step_45 fhn (vp_in_nI (n := 0) (by decide) (by decide)) ?_
        rw [show (0 : Int32).toNatClampNeg = 0 by decide]
        refine x_iconst (v := 3) C d_Mo_step_46 (by decide) ?_
        refine x_icmp_ne (tgt := 55) C d_Mo_step_47 rfl (fun q47 => ?_) (fun q47 => ?_)
        · skip
          refine x_aload_n C d_Mo_step_55 rfl rfl ?_
          refine x_iconst (v := 1) C d_Mo_step_56 (by decide) ?_
          refine x_put C k_Mo f_Mo_136 d_Mo_step_57 fm (by rfl) (by rfl) (by rfl) (by omega) rfl (fun h3 u3 => ?_)
          have fco := xUp_ne u3 fco (by first | assumption | exact Ne.symm (by assumption) | exact x_ne fco fm (by simp))
          have fhn := xUp_ne u3 fhn (by first | assumption | exact Ne.symm (by assumption) | exact x_ne fhn fm (by simp))
          have fof := xUp_ne u3 fof (by first | assumption | exact Ne.symm (by assumption) | exact x_ne fof fm (by simp))
          have fce := xUp_ne u3 fce (by first | assumption | exact Ne.symm (by assumption) | exact x_ne fce fm (by simp))
          have fm := xUp_at u3
          have kp := kp.up u3 (by simp)
          have g_there := gs_ne fm g_there (by decide)
          have g_columns := gs_ne fm g_columns (by decide)
          have g_hadNumbers := gs_ne fm g_hadNumbers (by decide)
          have g_of := gs_ne fm g_of (by decide)
          have g_cells := gs_ne fm g_cells (by decide)
          have g_rows := gs_ne fm g_rows (by decide)
          have g_first := gs_ne fm g_first (by decide)
          have g_thrown := gs_ne fm g_thrown (by decide)
          have g_row := gs_ne fm g_row (by decide)
          have g_state := gs_eq fm hlen (by decide)
          have mu := mu.setF fm (by decide)
          have hlen := gs_len fm hlen
          refine x_aload_n C d_Mo_step_60 rfl rfl ?_
          refine x_get C k_Mo f_Mo_28 d_Mo_step_61 fm g_hadNumbers ?_
          refine x_iconst (v := 0) C d_Mo_step_64 (by decide) ?_
          refine x_iald C d_Mo_step_65 fhn (vp_in_nI (n := 0) (by decide) (by decide)) ?_
          rw [show (0 : Int32).toNatClampNeg = 0 by decide]
          refine x_if_ne (tgt := 76) C d_Mo_step_66 rfl (fun q66 => ?_) (fun q66 => ?_)
          · skip
            refine x_aload_n C d_Mo_step_76 rfl rfl ?_
            refine x_get C k_Mo f_Mo_28 d_Mo_step_77 fm g_hadNumbers ?_
            refine x_iconst (v := 0) C d_Mo_step_80 (by decide) ?_
            refine x_iald C d_Mo_step_81 fhn (vp_in_nI (n := 0) (by decide) (by decide)) ?_
            rw [show (0 : Int32).toNatClampNeg = 0 by decide]
            refine x_iconst (v := 1) C d_Mo_step_82 (by decide) ?_
            refine x_icmp_ne (tgt := 93) C d_Mo_step_83 rfl (fun q83 => ?_) (fun q83 => ?_)
            · skip
              exact absurd hv q83
            · skip
              refine x_aload_n C d_Mo_step_86 rfl rfl ?_
              refine x_callV C l_Mo_191 v_Mo_inserts d_Mo_step_87 (m_Mo_inserts fm hlen g_columns g_hadNumbers g_of g_cells g_rows g_first fco fhn fof fce hN ht1 hcN hc6) fm rfl (by rfl) (by rfl) (by decide) (by decide) (Nat.le_of_ble_eq_true rfl) ?_
              rintro v4 h4 ⟨fs4, of9, f9, an, rfl, fm', mu4, fof', fce', kp4, hD⟩
              have fco := kp4.get fco (nm_c (by first | assumption | exact Ne.symm (by assumption) | exact x_ne fco fm (by simp)) (nm_c (by first | assumption | exact Ne.symm (by assumption) | exact x_ne fco fof (by simp)) (nm_c (by first | assumption | exact Ne.symm (by assumption) | exact x_ne fco fce (by simp)) nm_n)))
              have fhn := kp4.get fhn (nm_c (by first | assumption | exact Ne.symm (by assumption) | exact x_ne fhn fm (by simp)) (nm_c (by first | assumption | exact Ne.symm (by assumption) | exact x_ne fhn fof (by simp)) (nm_c (by first | assumption | exact Ne.symm (by assumption) | exact x_ne fhn fce (by simp)) nm_n)))
              have kp := kp.call kp4 (kc_c (Or.inl (by simp)) (kc_c (Or.inl (by simp)) (kc_c (Or.inl (by simp)) kc_n)))
              have fm := fm'
              have fof := fof'
              have fce := fce'
              have hlen := mu4.1.trans hlen
              have g_there := mu4.get g_there (by decide)
              have g_state := mu4.get g_state (by decide)
              have g_columns := mu4.get g_columns (by decide)
              have g_hadNumbers := mu4.get g_hadNumbers (by decide)
              have g_of := mu4.get g_of (by decide)
              have g_cells := mu4.get g_cells (by decide)
              have g_first := mu4.get g_first (by decide)
              have g_thrown := mu4.get g_thrown (by decide)
              have g_row := mu4.get g_row (by decide)
              have mu := mu.tr mu4 (by decide)
              refine x_goto (tgt := 97) C d_Mo_step_90 rfl ?_
              refine x_iret C d_Mo_step_97 ?_
              exact ⟨_, of9, f9, an, rfl, fm, mu, fof, fce, kp, g_thrown, g_row, g_state, hD⟩
          · skip
            exact absurd (hv.symm.trans q66) (by decide)
        · skip
          exact absurd (hv.symm.trans q47) (by decide)
      · skip
        exact absurd q35 (by decide)
    · skip
      exact absurd q20 (by decide)
set_option maxRecDepth 20000 in
set_option maxHeartbeats 1000000 in
theorem m_Mo_stepD {V : xV} {h : xH} {mhk mhn mof mce N t1 fr T bb kc : Nat} {hk hn of f : Nat → Int32} {m : Nat} {fs : List Value} (fm : h m = some (.inr (8, fs))) (hlen : fs.length = 29) (g_there : fs[11]? = some (.int 1)) (g_state : fs[17]? = some (.int 0)) (g_hadKinds : fs[8]? = some (.ref mhk)) (g_hadNumbers : fs[9]? = some (.ref mhn)) (g_of : fs[2]? = some (.ref mof)) (g_cells : fs[3]? = some (.ref mce)) (g_rows : fs[4]? = some (.int (nI N))) (g_first : fs[12]? = some (.int (nI t1))) (g_from : fs[14]? = some (.int (nI fr))) (g_to : fs[15]? = some (.int (nI T))) (fhk : h mhk = some (xI V 60 hk)) (fhn : h mhn = some (xI V 60 hn)) (fof : h mof = some (xI V 400 of)) (fce : h mce = some (xI V 2400 f)) (hN : N ≤ 400) (ht1 : t1 < 10) (hFT : mFT fr T bb kc) (htk : mToks hk hn (-1) fr kc) (hv : hn 0 = 2) : xM V y_Mo_step b_Mo_step 1 (some .int) 4 [.ref m] h 0 0 (fun v h' => ∃ fs' of' f' N', v = some (.int 0) ∧ h' m = some (.inr (8, fs')) ∧ mUp [0, 17, 21, 4] fs fs' ∧ h' mof = some (xI V 400 of') ∧ h' mce = some (xI V 2400 f') ∧ xKeep [m, mof, mce] h h' ∧ fs'[0]? = some (.int 0) ∧ fs'[21]? = some (.int 0) ∧ fs'[17]? = some (.int 1) ∧ fs'[4]? = some (.int (nI N')) ∧ N' ≤ N ∧ mRows of' f' N' = (mRows of f N).filter (mKeep hk hn fr kc (nI t1))) := by
  refine xM_of false (by decide) (fun h => nomatch h) (Nat.le_of_ble_eq_true rfl) (fun K C => ?_)
  show K 0 0 h 0 [(0, .ref m)] []
  have kp : xKeep [m, mof, mce] h h := xKeep.rf
  have mu : mUp [0, 17, 21, 4] fs fs := mUp.rf
  refine x_aload_n C d_Mo_step_0 rfl rfl ?_
  refine x_aload_n C d_Mo_step_1 rfl rfl ?_
  refine x_get C k_Mo f_Mo_130 d_Mo_step_2 fm g_there ?_
  refine x_if_eq (tgt := 12) C d_Mo_step_5 rfl (fun q5 => ?_) (fun q5 => ?_)
  · skip
    exact absurd q5 (by decide)
  · skip
    refine x_iconst (v := 0) C d_Mo_step_8 (by decide) ?_
    refine x_goto (tgt := 13) C d_Mo_step_9 rfl ?_
    refine x_put C k_Mo f_Mo_31 d_Mo_step_13 fm (by rfl) (by rfl) (by rfl) (by omega) rfl (fun h1 u1 => ?_)
    have fhk := xUp_ne u1 fhk (by first | assumption | exact Ne.symm (by assumption) | exact x_ne fhk fm (by simp))
    have fhn := xUp_ne u1 fhn (by first | assumption | exact Ne.symm (by assumption) | exact x_ne fhn fm (by simp))
    have fof := xUp_ne u1 fof (by first | assumption | exact Ne.symm (by assumption) | exact x_ne fof fm (by simp))
    have fce := xUp_ne u1 fce (by first | assumption | exact Ne.symm (by assumption) | exact x_ne fce fm (by simp))
    have fm := xUp_at u1
    have kp := kp.up u1 (by simp)
    have g_there := gs_ne fm g_there (by decide)
    have g_state := gs_ne fm g_state (by decide)
    have g_hadKinds := gs_ne fm g_hadKinds (by decide)
    have g_hadNumbers := gs_ne fm g_hadNumbers (by decide)
    have g_of := gs_ne fm g_of (by decide)
    have g_cells := gs_ne fm g_cells (by decide)
    have g_rows := gs_ne fm g_rows (by decide)
    have g_first := gs_ne fm g_first (by decide)
    have g_from := gs_ne fm g_from (by decide)
    have g_to := gs_ne fm g_to (by decide)
    have g_thrown := gs_eq fm hlen (by decide)
    have mu := mu.setF fm (by decide)
    have hlen := gs_len fm hlen
    refine x_aload_n C d_Mo_step_16 rfl rfl ?_
    refine x_get C k_Mo f_Mo_130 d_Mo_step_17 fm g_there ?_
    refine x_if_ne (tgt := 25) C d_Mo_step_20 rfl (fun q20 => ?_) (fun q20 => ?_)
    · skip
      refine x_aload_n C d_Mo_step_25 rfl rfl ?_
      refine x_iconst (v := 0) C d_Mo_step_26 (by decide) ?_
      refine x_put C k_Mo f_Mo_148 d_Mo_step_27 fm (by rfl) (by rfl) (by rfl) (by omega) rfl (fun h2 u2 => ?_)
      have fhk := xUp_ne u2 fhk (by first | assumption | exact Ne.symm (by assumption) | exact x_ne fhk fm (by simp))
      have fhn := xUp_ne u2 fhn (by first | assumption | exact Ne.symm (by assumption) | exact x_ne fhn fm (by simp))
      have fof := xUp_ne u2 fof (by first | assumption | exact Ne.symm (by assumption) | exact x_ne fof fm (by simp))
      have fce := xUp_ne u2 fce (by first | assumption | exact Ne.symm (by assumption) | exact x_ne fce fm (by simp))
      have fm := xUp_at u2
      have kp := kp.up u2 (by simp)
      have g_there := gs_ne fm g_there (by decide)
      have g_state := gs_ne fm g_state (by decide)
      have g_hadKinds := gs_ne fm g_hadKinds (by decide)
      have g_hadNumbers := gs_ne fm g_hadNumbers (by decide)
      have g_of := gs_ne fm g_of (by decide)
      have g_cells := gs_ne fm g_cells (by decide)
      have g_rows := gs_ne fm g_rows (by decide)
      have g_first := gs_ne fm g_first (by decide)
      have g_from := gs_ne fm g_from (by decide)
      have g_to := gs_ne fm g_to (by decide)
      have g_thrown := gs_ne fm g_thrown (by decide)
      have g_row := gs_eq fm hlen (by decide)
      have mu := mu.setF fm (by decide)
      have hlen := gs_len fm hlen
      refine x_aload_n C d_Mo_step_30 rfl rfl ?_
      refine x_get C k_Mo f_Mo_136 d_Mo_step_31 fm g_state ?_
      refine x_iconst (v := 1) C d_Mo_step_34 (by decide) ?_
      refine x_icmp_ne (tgt := 40) C d_Mo_step_35 rfl (fun q35 => ?_) (fun q35 => ?_)
      · skip
        refine x_aload_n C d_Mo_step_40 rfl rfl ?_
        refine x_get C k_Mo f_Mo_28 d_Mo_step_41 fm g_hadNumbers ?_
        refine x_iconst (v := 0) C d_Mo_step_44 (by decide) ?_
        refine x_iald C d_Mo_step_45 fhn (vp_in_nI (n := 0) (by decide) (by decide)) ?_
        rw [show (0 : Int32).toNatClampNeg = 0 by decide]
        refine x_iconst (v := 3) C d_Mo_step_46 (by decide) ?_
        refine x_icmp_ne (tgt := 55) C d_Mo_step_47 rfl (fun q47 => ?_) (fun q47 => ?_)
        · skip
          refine x_aload_n C d_Mo_step_55 rfl rfl ?_
          refine x_iconst (v := 1) C d_Mo_step_56 (by decide) ?_
          refine x_put C k_Mo f_Mo_136 d_Mo_step_57 fm (by rfl) (by rfl) (by rfl) (by omega) rfl (fun h3 u3 => ?_)
          have fhk := xUp_ne u3 fhk (by first | assumption | exact Ne.symm (by assumption) | exact x_ne fhk fm (by simp))
          have fhn := xUp_ne u3 fhn (by first | assumption | exact Ne.symm (by assumption) | exact x_ne fhn fm (by simp))
          have fof := xUp_ne u3 fof (by first | assumption | exact Ne.symm (by assumption) | exact x_ne fof fm (by simp))
          have fce := xUp_ne u3 fce (by first | assumption | exact Ne.symm (by assumption) | exact x_ne fce fm (by simp))
          have fm := xUp_at u3
          have kp := kp.up u3 (by simp)
          have g_there := gs_ne fm g_there (by decide)
          have g_hadKinds := gs_ne fm g_hadKinds (by decide)
          have g_hadNumbers := gs_ne fm g_hadNumbers (by decide)
          have g_of := gs_ne fm g_of (by decide)
          have g_cells := gs_ne fm g_cells (by decide)
          have g_rows := gs_ne fm g_rows (by decide)
          have g_first := gs_ne fm g_first (by decide)
          have g_from := gs_ne fm g_from (by decide)
          have g_to := gs_ne fm g_to (by decide)
          have g_thrown := gs_ne fm g_thrown (by decide)
          have g_row := gs_ne fm g_row (by decide)
          have g_state := gs_eq fm hlen (by decide)
          have mu := mu.setF fm (by decide)
          have hlen := gs_len fm hlen
          refine x_aload_n C d_Mo_step_60 rfl rfl ?_
          refine x_get C k_Mo f_Mo_28 d_Mo_step_61 fm g_hadNumbers ?_
          refine x_iconst (v := 0) C d_Mo_step_64 (by decide) ?_
          refine x_iald C d_Mo_step_65 fhn (vp_in_nI (n := 0) (by decide) (by decide)) ?_
          rw [show (0 : Int32).toNatClampNeg = 0 by decide]
          refine x_if_ne (tgt := 76) C d_Mo_step_66 rfl (fun q66 => ?_) (fun q66 => ?_)
          · skip
            refine x_aload_n C d_Mo_step_76 rfl rfl ?_
            refine x_get C k_Mo f_Mo_28 d_Mo_step_77 fm g_hadNumbers ?_
            refine x_iconst (v := 0) C d_Mo_step_80 (by decide) ?_
            refine x_iald C d_Mo_step_81 fhn (vp_in_nI (n := 0) (by decide) (by decide)) ?_
            rw [show (0 : Int32).toNatClampNeg = 0 by decide]
            refine x_iconst (v := 1) C d_Mo_step_82 (by decide) ?_
            refine x_icmp_ne (tgt := 93) C d_Mo_step_83 rfl (fun q83 => ?_) (fun q83 => ?_)
            · skip
              refine x_aload_n C d_Mo_step_93 rfl rfl ?_
              refine x_callV C l_Mo_194 v_Mo_deletes d_Mo_step_94 (m_Mo_deletes fm hlen g_hadKinds g_hadNumbers g_of g_cells g_rows g_first g_from g_to fhk fhn fof fce hN ht1 hFT htk) fm rfl (by rfl) (by rfl) (by decide) (by decide) (Nat.le_of_ble_eq_true rfl) ?_
              rintro v4 h4 ⟨fs4, of9, f9, N9, rfl, fm', mu4, fof', fce', kp4, g4_rows, hle, hL⟩
              have fhk := kp4.get fhk (nm_c (by first | assumption | exact Ne.symm (by assumption) | exact x_ne fhk fm (by simp)) (nm_c (by first | assumption | exact Ne.symm (by assumption) | exact x_ne fhk fof (by simp)) (nm_c (by first | assumption | exact Ne.symm (by assumption) | exact x_ne fhk fce (by simp)) nm_n)))
              have fhn := kp4.get fhn (nm_c (by first | assumption | exact Ne.symm (by assumption) | exact x_ne fhn fm (by simp)) (nm_c (by first | assumption | exact Ne.symm (by assumption) | exact x_ne fhn fof (by simp)) (nm_c (by first | assumption | exact Ne.symm (by assumption) | exact x_ne fhn fce (by simp)) nm_n)))
              have kp := kp.call kp4 (kc_c (Or.inl (by simp)) (kc_c (Or.inl (by simp)) (kc_c (Or.inl (by simp)) kc_n)))
              have fm := fm'
              have fof := fof'
              have fce := fce'
              have hlen := mu4.1.trans hlen
              have g_there := mu4.get g_there (by decide)
              have g_state := mu4.get g_state (by decide)
              have g_hadKinds := mu4.get g_hadKinds (by decide)
              have g_hadNumbers := mu4.get g_hadNumbers (by decide)
              have g_of := mu4.get g_of (by decide)
              have g_cells := mu4.get g_cells (by decide)
              have g_first := mu4.get g_first (by decide)
              have g_from := mu4.get g_from (by decide)
              have g_to := mu4.get g_to (by decide)
              have g_thrown := mu4.get g_thrown (by decide)
              have g_row := mu4.get g_row (by decide)
              have g_rows := g4_rows
              have mu := mu.tr mu4 (by decide)
              refine x_iret C d_Mo_step_97 ?_
              exact ⟨_, of9, f9, N9, rfl, fm, mu, fof, fce, kp, g_thrown, g_row, g_state, g_rows, hle, hL⟩
            · skip
              exact absurd (hv.symm.trans q83) (by decide)
          · skip
            exact absurd (hv.symm.trans q66) (by decide)
        · skip
          exact absurd (hv.symm.trans q47) (by decide)
      · skip
        exact absurd q35 (by decide)
    · skip
      exact absurd q20 (by decide)
set_option maxRecDepth 20000 in
set_option maxHeartbeats 1000000 in
theorem m_Mo_stepR {V : xV} {h : xH} {mhk mhn mof mce N n1 n2 i j fr T bb kc : Nat} {hk hn of f : Nat → Int32} {p1 p2 : Nat → Nat} {fl a1 a2 aT bT gn : Int32} {m : Nat} {fs : List Value} (fm : h m = some (.inr (8, fs))) (hlen : fs.length = 29) (g_there : fs[11]? = some (.int 1)) (g_state : fs[17]? = some (.int 0)) (g_hadKinds : fs[8]? = some (.ref mhk)) (g_hadNumbers : fs[9]? = some (.ref mhn)) (g_of : fs[2]? = some (.ref mof)) (g_cells : fs[3]? = some (.ref mce)) (g_rows : fs[4]? = some (.int (nI N))) (g_falls : fs[16]? = some (.int fl)) (g_first : fs[12]? = some (.int a1)) (g_second : fs[13]? = some (.int a2)) (g_from : fs[14]? = some (.int (nI fr))) (g_to : fs[15]? = some (.int (nI T))) (g_at : fs[19]? = some (.int aT)) (g_beside : fs[20]? = some (.int bT)) (g_given : fs[18]? = some (.int gn)) (fhk : h mhk = some (xI V 60 hk)) (fhn : h mhn = some (xI V 60 hn)) (fof : h mof = some (xI V 400 of)) (fce : h mce = some (xI V 2400 f)) (hN : N ≤ 400) (hFT : mFT fr T bb kc) (htk : mToks hk hn a2 fr kc) (ho1 : ordS of (fun k => f (k * 6)) fl N a1 n1 p1) (hs2 : (a2 = -1 ∧ n2 = 1) ∨ (¬ a2 = -1 ∧ ordS of (fun k => f (k * 6)) fl N a2 n2 p2)) (hc : mCur a2 p1 p2 n1 n2 i j aT bT) (hfo : ¬ (hk 1 = 0 ∧ ¬ hn 1 = 4)) (hv : hn 0 = 3) : xM V y_Mo_step b_Mo_step 1 (some .int) 4 [.ref m] h 0 0 (fun v h' => ∃ fs', h' m = some (.inr (8, fs')) ∧ mUp [0, 17, 18, 19, 20, 21] fs fs' ∧ xKeep [m] h h' ∧ fs'[0]? = some (.int 0) ∧ ((v = some (.int 0) ∧ bad (fun a b => mHR hk hn fr kc (row6 f (p1 a * 6)) (row6 f (p2 b * 6))) n1 n2 i j n1 0 ∧ fs'[17]? = some (.int 1) ∧ fs'[21]? = some (.int 0) ∧ fs'[18]? = some (.int gn) ∧ ∃ aT' bT', fs'[19]? = some (.int aT') ∧ fs'[20]? = some (.int bT')) ∨ ∃ i' j' aT' bT', v = some (.int 1) ∧ i' < n1 ∧ j' < n2 ∧ bhd i j i' j' ∧ bad (fun a b => mHR hk hn fr kc (row6 f (p1 a * 6)) (row6 f (p2 b * 6))) n1 n2 i j i' j' ∧ (fun a b => mHR hk hn fr kc (row6 f (p1 a * 6)) (row6 f (p2 b * 6))) i' j' = true ∧ mCur a2 p1 p2 n1 n2 i' (j' + 1) aT' bT' ∧ fs'[19]? = some (.int aT') ∧ fs'[20]? = some (.int bT') ∧ fs'[17]? = some (.int 0) ∧ fs'[21]? = some (.int 1) ∧ fs'[18]? = some (.int (gn + 1)))) := by
  refine xM_of false (by decide) (fun h => nomatch h) (Nat.le_of_ble_eq_true rfl) (fun K C => ?_)
  show K 0 0 h 0 [(0, .ref m)] []
  have kp : xKeep [m] h h := xKeep.rf
  have mu : mUp [0, 17, 18, 19, 20, 21] fs fs := mUp.rf
  refine x_aload_n C d_Mo_step_0 rfl rfl ?_
  refine x_aload_n C d_Mo_step_1 rfl rfl ?_
  refine x_get C k_Mo f_Mo_130 d_Mo_step_2 fm g_there ?_
  refine x_if_eq (tgt := 12) C d_Mo_step_5 rfl (fun q5 => ?_) (fun q5 => ?_)
  · skip
    exact absurd q5 (by decide)
  · skip
    refine x_iconst (v := 0) C d_Mo_step_8 (by decide) ?_
    refine x_goto (tgt := 13) C d_Mo_step_9 rfl ?_
    refine x_put C k_Mo f_Mo_31 d_Mo_step_13 fm (by rfl) (by rfl) (by rfl) (by omega) rfl (fun h1 u1 => ?_)
    have fhk := xUp_ne u1 fhk (by first | assumption | exact Ne.symm (by assumption) | exact x_ne fhk fm (by simp))
    have fhn := xUp_ne u1 fhn (by first | assumption | exact Ne.symm (by assumption) | exact x_ne fhn fm (by simp))
    have fof := xUp_ne u1 fof (by first | assumption | exact Ne.symm (by assumption) | exact x_ne fof fm (by simp))
    have fce := xUp_ne u1 fce (by first | assumption | exact Ne.symm (by assumption) | exact x_ne fce fm (by simp))
    have fm := xUp_at u1
    have kp := kp.up u1 (by simp)
    have g_there := gs_ne fm g_there (by decide)
    have g_state := gs_ne fm g_state (by decide)
    have g_hadKinds := gs_ne fm g_hadKinds (by decide)
    have g_hadNumbers := gs_ne fm g_hadNumbers (by decide)
    have g_of := gs_ne fm g_of (by decide)
    have g_cells := gs_ne fm g_cells (by decide)
    have g_rows := gs_ne fm g_rows (by decide)
    have g_falls := gs_ne fm g_falls (by decide)
    have g_first := gs_ne fm g_first (by decide)
    have g_second := gs_ne fm g_second (by decide)
    have g_from := gs_ne fm g_from (by decide)
    have g_to := gs_ne fm g_to (by decide)
    have g_at := gs_ne fm g_at (by decide)
    have g_beside := gs_ne fm g_beside (by decide)
    have g_given := gs_ne fm g_given (by decide)
    have g_thrown := gs_eq fm hlen (by decide)
    have mu := mu.setF fm (by decide)
    have hlen := gs_len fm hlen
    refine x_aload_n C d_Mo_step_16 rfl rfl ?_
    refine x_get C k_Mo f_Mo_130 d_Mo_step_17 fm g_there ?_
    refine x_if_ne (tgt := 25) C d_Mo_step_20 rfl (fun q20 => ?_) (fun q20 => ?_)
    · skip
      refine x_aload_n C d_Mo_step_25 rfl rfl ?_
      refine x_iconst (v := 0) C d_Mo_step_26 (by decide) ?_
      refine x_put C k_Mo f_Mo_148 d_Mo_step_27 fm (by rfl) (by rfl) (by rfl) (by omega) rfl (fun h2 u2 => ?_)
      have fhk := xUp_ne u2 fhk (by first | assumption | exact Ne.symm (by assumption) | exact x_ne fhk fm (by simp))
      have fhn := xUp_ne u2 fhn (by first | assumption | exact Ne.symm (by assumption) | exact x_ne fhn fm (by simp))
      have fof := xUp_ne u2 fof (by first | assumption | exact Ne.symm (by assumption) | exact x_ne fof fm (by simp))
      have fce := xUp_ne u2 fce (by first | assumption | exact Ne.symm (by assumption) | exact x_ne fce fm (by simp))
      have fm := xUp_at u2
      have kp := kp.up u2 (by simp)
      have g_there := gs_ne fm g_there (by decide)
      have g_state := gs_ne fm g_state (by decide)
      have g_hadKinds := gs_ne fm g_hadKinds (by decide)
      have g_hadNumbers := gs_ne fm g_hadNumbers (by decide)
      have g_of := gs_ne fm g_of (by decide)
      have g_cells := gs_ne fm g_cells (by decide)
      have g_rows := gs_ne fm g_rows (by decide)
      have g_falls := gs_ne fm g_falls (by decide)
      have g_first := gs_ne fm g_first (by decide)
      have g_second := gs_ne fm g_second (by decide)
      have g_from := gs_ne fm g_from (by decide)
      have g_to := gs_ne fm g_to (by decide)
      have g_at := gs_ne fm g_at (by decide)
      have g_beside := gs_ne fm g_beside (by decide)
      have g_given := gs_ne fm g_given (by decide)
      have g_thrown := gs_ne fm g_thrown (by decide)
      have g_row := gs_eq fm hlen (by decide)
      have mu := mu.setF fm (by decide)
      have hlen := gs_len fm hlen
      refine x_aload_n C d_Mo_step_30 rfl rfl ?_
      refine x_get C k_Mo f_Mo_136 d_Mo_step_31 fm g_state ?_
      refine x_iconst (v := 1) C d_Mo_step_34 (by decide) ?_
      refine x_icmp_ne (tgt := 40) C d_Mo_step_35 rfl (fun q35 => ?_) (fun q35 => ?_)
      · skip
        refine x_aload_n C d_Mo_step_40 rfl rfl ?_
        refine x_get C k_Mo f_Mo_28 d_Mo_step_41 fm g_hadNumbers ?_
        refine x_iconst (v := 0) C d_Mo_step_44 (by decide) ?_
        refine x_iald C d_Mo_step_45 fhn (vp_in_nI (n := 0) (by decide) (by decide)) ?_
        rw [show (0 : Int32).toNatClampNeg = 0 by decide]
        refine x_iconst (v := 3) C d_Mo_step_46 (by decide) ?_
        refine x_icmp_ne (tgt := 55) C d_Mo_step_47 rfl (fun q47 => ?_) (fun q47 => ?_)
        · skip
          exact absurd hv q47
        · skip
          refine x_aload_n C d_Mo_step_50 rfl rfl ?_
          refine x_callV C l_Mo_185 v_Mo_selects d_Mo_step_51 (m_Mo_selectsR fm hlen g_hadKinds g_hadNumbers g_of g_cells g_rows g_falls g_first g_second g_from g_to g_at g_beside g_given fhk fhn fof fce hN hFT htk ho1 hs2 hc hfo) fm rfl (by rfl) (by rfl) (by decide) (by decide) (Nat.le_of_ble_eq_true rfl) ?_
          rintro v3 h3 ⟨fs3, fm', mu3, kp3, (⟨rfl, hD⟩ | ⟨i', j', aT', bT', rfl, hD⟩)⟩
          · skip
            have fhk := kp3.get fhk (nm_c (by first | assumption | exact Ne.symm (by assumption) | exact x_ne fhk fm (by simp)) nm_n)
            have fhn := kp3.get fhn (nm_c (by first | assumption | exact Ne.symm (by assumption) | exact x_ne fhn fm (by simp)) nm_n)
            have fof := kp3.get fof (nm_c (by first | assumption | exact Ne.symm (by assumption) | exact x_ne fof fm (by simp)) nm_n)
            have fce := kp3.get fce (nm_c (by first | assumption | exact Ne.symm (by assumption) | exact x_ne fce fm (by simp)) nm_n)
            have kp := kp.call kp3 (kc_c (Or.inl (by simp)) kc_n)
            have fm := fm'
            have hlen := mu3.1.trans hlen
            have g_there := mu3.get g_there (by decide)
            have g_hadKinds := mu3.get g_hadKinds (by decide)
            have g_hadNumbers := mu3.get g_hadNumbers (by decide)
            have g_of := mu3.get g_of (by decide)
            have g_cells := mu3.get g_cells (by decide)
            have g_rows := mu3.get g_rows (by decide)
            have g_falls := mu3.get g_falls (by decide)
            have g_first := mu3.get g_first (by decide)
            have g_second := mu3.get g_second (by decide)
            have g_from := mu3.get g_from (by decide)
            have g_to := mu3.get g_to (by decide)
            have g_thrown := mu3.get g_thrown (by decide)
            have mu := mu.tr mu3 (by decide)
            refine x_iret C d_Mo_step_54 ?_
            first | exact ⟨_, fm, mu, kp, g_thrown, Or.inl ⟨rfl, hD⟩⟩ | exact ⟨_, fm, mu, kp, g_thrown, Or.inr ⟨i', j', aT', bT', rfl, hD⟩⟩
          · skip
            have fhk := kp3.get fhk (nm_c (by first | assumption | exact Ne.symm (by assumption) | exact x_ne fhk fm (by simp)) nm_n)
            have fhn := kp3.get fhn (nm_c (by first | assumption | exact Ne.symm (by assumption) | exact x_ne fhn fm (by simp)) nm_n)
            have fof := kp3.get fof (nm_c (by first | assumption | exact Ne.symm (by assumption) | exact x_ne fof fm (by simp)) nm_n)
            have fce := kp3.get fce (nm_c (by first | assumption | exact Ne.symm (by assumption) | exact x_ne fce fm (by simp)) nm_n)
            have kp := kp.call kp3 (kc_c (Or.inl (by simp)) kc_n)
            have fm := fm'
            have hlen := mu3.1.trans hlen
            have g_there := mu3.get g_there (by decide)
            have g_hadKinds := mu3.get g_hadKinds (by decide)
            have g_hadNumbers := mu3.get g_hadNumbers (by decide)
            have g_of := mu3.get g_of (by decide)
            have g_cells := mu3.get g_cells (by decide)
            have g_rows := mu3.get g_rows (by decide)
            have g_falls := mu3.get g_falls (by decide)
            have g_first := mu3.get g_first (by decide)
            have g_second := mu3.get g_second (by decide)
            have g_from := mu3.get g_from (by decide)
            have g_to := mu3.get g_to (by decide)
            have g_thrown := mu3.get g_thrown (by decide)
            have mu := mu.tr mu3 (by decide)
            refine x_iret C d_Mo_step_54 ?_
            first | exact ⟨_, fm, mu, kp, g_thrown, Or.inl ⟨rfl, hD⟩⟩ | exact ⟨_, fm, mu, kp, g_thrown, Or.inr ⟨i', j', aT', bT', rfl, hD⟩⟩
      · skip
        exact absurd q35 (by decide)
    · skip
      exact absurd q20 (by decide)
set_option maxRecDepth 20000 in
set_option maxHeartbeats 1000000 in
theorem m_Mo_stepT {V : xV} {h : xH} {mhk mhn mof mce N fr T bb kc : Nat} {hk hn of f : Nat → Int32} {a1 a2 gn : Int32} {m : Nat} {fs : List Value} (fm : h m = some (.inr (8, fs))) (hlen : fs.length = 29) (g_there : fs[11]? = some (.int 1)) (g_state : fs[17]? = some (.int 0)) (g_hadKinds : fs[8]? = some (.ref mhk)) (g_hadNumbers : fs[9]? = some (.ref mhn)) (g_of : fs[2]? = some (.ref mof)) (g_cells : fs[3]? = some (.ref mce)) (g_rows : fs[4]? = some (.int (nI N))) (g_first : fs[12]? = some (.int a1)) (g_second : fs[13]? = some (.int a2)) (g_from : fs[14]? = some (.int (nI fr))) (g_to : fs[15]? = some (.int (nI T))) (g_given : fs[18]? = some (.int gn)) (fhk : h mhk = some (xI V 60 hk)) (fhn : h mhn = some (xI V 60 hn)) (fof : h mof = some (xI V 400 of)) (fce : h mce = some (xI V 2400 f)) (hN : N ≤ 400) (hFT : mFT fr T bb kc) (htk : mToks hk hn a2 fr kc) (hsm : hn 1 = 5 ∨ mTok hk hn a2 2) (hfo : (hk 1 = 0 ∧ ¬ hn 1 = 4)) (hv : hn 0 = 3) : xM V y_Mo_step b_Mo_step 1 (some .int) 5 [.ref m] h 0 0 (fun v h' => v = some (.int 1) ∧ ∃ fs', h' m = some (.inr (8, fs')) ∧ mUp [0, 17, 18, 21, 22] fs fs' ∧ xKeep [m] h h' ∧ fs'[0]? = some (.int 0) ∧ fs'[22]? = some (.long (mTold hk hn of f a1 a2 fr kc N)) ∧ fs'[17]? = some (.int 1) ∧ fs'[21]? = some (.int 1) ∧ fs'[18]? = some (.int (gn + 1))) := by
  refine xM_of false (by decide) (fun h => nomatch h) (Nat.le_of_ble_eq_true rfl) (fun K C => ?_)
  show K 0 0 h 0 [(0, .ref m)] []
  have kp : xKeep [m] h h := xKeep.rf
  have mu : mUp [0, 17, 18, 21, 22] fs fs := mUp.rf
  refine x_aload_n C d_Mo_step_0 rfl rfl ?_
  refine x_aload_n C d_Mo_step_1 rfl rfl ?_
  refine x_get C k_Mo f_Mo_130 d_Mo_step_2 fm g_there ?_
  refine x_if_eq (tgt := 12) C d_Mo_step_5 rfl (fun q5 => ?_) (fun q5 => ?_)
  · skip
    exact absurd q5 (by decide)
  · skip
    refine x_iconst (v := 0) C d_Mo_step_8 (by decide) ?_
    refine x_goto (tgt := 13) C d_Mo_step_9 rfl ?_
    refine x_put C k_Mo f_Mo_31 d_Mo_step_13 fm (by rfl) (by rfl) (by rfl) (by omega) rfl (fun h1 u1 => ?_)
    have fhk := xUp_ne u1 fhk (by first | assumption | exact Ne.symm (by assumption) | exact x_ne fhk fm (by simp))
    have fhn := xUp_ne u1 fhn (by first | assumption | exact Ne.symm (by assumption) | exact x_ne fhn fm (by simp))
    have fof := xUp_ne u1 fof (by first | assumption | exact Ne.symm (by assumption) | exact x_ne fof fm (by simp))
    have fce := xUp_ne u1 fce (by first | assumption | exact Ne.symm (by assumption) | exact x_ne fce fm (by simp))
    have fm := xUp_at u1
    have kp := kp.up u1 (by simp)
    have g_there := gs_ne fm g_there (by decide)
    have g_state := gs_ne fm g_state (by decide)
    have g_hadKinds := gs_ne fm g_hadKinds (by decide)
    have g_hadNumbers := gs_ne fm g_hadNumbers (by decide)
    have g_of := gs_ne fm g_of (by decide)
    have g_cells := gs_ne fm g_cells (by decide)
    have g_rows := gs_ne fm g_rows (by decide)
    have g_first := gs_ne fm g_first (by decide)
    have g_second := gs_ne fm g_second (by decide)
    have g_from := gs_ne fm g_from (by decide)
    have g_to := gs_ne fm g_to (by decide)
    have g_given := gs_ne fm g_given (by decide)
    have g_thrown := gs_eq fm hlen (by decide)
    have mu := mu.setF fm (by decide)
    have hlen := gs_len fm hlen
    refine x_aload_n C d_Mo_step_16 rfl rfl ?_
    refine x_get C k_Mo f_Mo_130 d_Mo_step_17 fm g_there ?_
    refine x_if_ne (tgt := 25) C d_Mo_step_20 rfl (fun q20 => ?_) (fun q20 => ?_)
    · skip
      refine x_aload_n C d_Mo_step_25 rfl rfl ?_
      refine x_iconst (v := 0) C d_Mo_step_26 (by decide) ?_
      refine x_put C k_Mo f_Mo_148 d_Mo_step_27 fm (by rfl) (by rfl) (by rfl) (by omega) rfl (fun h2 u2 => ?_)
      have fhk := xUp_ne u2 fhk (by first | assumption | exact Ne.symm (by assumption) | exact x_ne fhk fm (by simp))
      have fhn := xUp_ne u2 fhn (by first | assumption | exact Ne.symm (by assumption) | exact x_ne fhn fm (by simp))
      have fof := xUp_ne u2 fof (by first | assumption | exact Ne.symm (by assumption) | exact x_ne fof fm (by simp))
      have fce := xUp_ne u2 fce (by first | assumption | exact Ne.symm (by assumption) | exact x_ne fce fm (by simp))
      have fm := xUp_at u2
      have kp := kp.up u2 (by simp)
      have g_there := gs_ne fm g_there (by decide)
      have g_state := gs_ne fm g_state (by decide)
      have g_hadKinds := gs_ne fm g_hadKinds (by decide)
      have g_hadNumbers := gs_ne fm g_hadNumbers (by decide)
      have g_of := gs_ne fm g_of (by decide)
      have g_cells := gs_ne fm g_cells (by decide)
      have g_rows := gs_ne fm g_rows (by decide)
      have g_first := gs_ne fm g_first (by decide)
      have g_second := gs_ne fm g_second (by decide)
      have g_from := gs_ne fm g_from (by decide)
      have g_to := gs_ne fm g_to (by decide)
      have g_given := gs_ne fm g_given (by decide)
      have g_thrown := gs_ne fm g_thrown (by decide)
      have g_row := gs_eq fm hlen (by decide)
      have mu := mu.setF fm (by decide)
      have hlen := gs_len fm hlen
      refine x_aload_n C d_Mo_step_30 rfl rfl ?_
      refine x_get C k_Mo f_Mo_136 d_Mo_step_31 fm g_state ?_
      refine x_iconst (v := 1) C d_Mo_step_34 (by decide) ?_
      refine x_icmp_ne (tgt := 40) C d_Mo_step_35 rfl (fun q35 => ?_) (fun q35 => ?_)
      · skip
        refine x_aload_n C d_Mo_step_40 rfl rfl ?_
        refine x_get C k_Mo f_Mo_28 d_Mo_step_41 fm g_hadNumbers ?_
        refine x_iconst (v := 0) C d_Mo_step_44 (by decide) ?_
        refine x_iald C d_Mo_step_45 fhn (vp_in_nI (n := 0) (by decide) (by decide)) ?_
        rw [show (0 : Int32).toNatClampNeg = 0 by decide]
        refine x_iconst (v := 3) C d_Mo_step_46 (by decide) ?_
        refine x_icmp_ne (tgt := 55) C d_Mo_step_47 rfl (fun q47 => ?_) (fun q47 => ?_)
        · skip
          exact absurd hv q47
        · skip
          refine x_aload_n C d_Mo_step_50 rfl rfl ?_
          refine x_callV C l_Mo_185 v_Mo_selects d_Mo_step_51 (m_Mo_selectsT fm hlen g_hadKinds g_hadNumbers g_of g_cells g_rows g_first g_second g_from g_to g_given fhk fhn fof fce hN hFT htk hsm hfo) fm rfl (by rfl) (by rfl) (by decide) (by decide) (Nat.le_of_ble_eq_true rfl) ?_
          rintro v3 h3 ⟨rfl, fs3, fm', mu3, kp3, g3_told, g3_state, g3_row, g3_given⟩
          have fhk := kp3.get fhk (nm_c (by first | assumption | exact Ne.symm (by assumption) | exact x_ne fhk fm (by simp)) nm_n)
          have fhn := kp3.get fhn (nm_c (by first | assumption | exact Ne.symm (by assumption) | exact x_ne fhn fm (by simp)) nm_n)
          have fof := kp3.get fof (nm_c (by first | assumption | exact Ne.symm (by assumption) | exact x_ne fof fm (by simp)) nm_n)
          have fce := kp3.get fce (nm_c (by first | assumption | exact Ne.symm (by assumption) | exact x_ne fce fm (by simp)) nm_n)
          have kp := kp.call kp3 (kc_c (Or.inl (by simp)) kc_n)
          have fm := fm'
          have hlen := mu3.1.trans hlen
          have g_there := mu3.get g_there (by decide)
          have g_hadKinds := mu3.get g_hadKinds (by decide)
          have g_hadNumbers := mu3.get g_hadNumbers (by decide)
          have g_of := mu3.get g_of (by decide)
          have g_cells := mu3.get g_cells (by decide)
          have g_rows := mu3.get g_rows (by decide)
          have g_first := mu3.get g_first (by decide)
          have g_second := mu3.get g_second (by decide)
          have g_from := mu3.get g_from (by decide)
          have g_to := mu3.get g_to (by decide)
          have g_thrown := mu3.get g_thrown (by decide)
          have g_told := g3_told
          have g_state := g3_state
          have g_row := g3_row
          have g_given := g3_given
          have mu := mu.tr mu3 (by decide)
          refine x_iret C d_Mo_step_54 ?_
          exact ⟨rfl, _, fm, mu, kp, g_thrown, g_told, g_state, g_row, g_given⟩
      · skip
        exact absurd q35 (by decide)
    · skip
      exact absurd q20 (by decide)
