/-! CursorBaseModel: cells, folds, reset, clear -/
set_option maxRecDepth 20000 in
set_option maxHeartbeats 1000000 in
theorem m_Mo_cell {V : xV} {h : xH} {mce r c : Nat} {f : Nat → Int32} {m : Nat} {fs : List Value} (fm : h m = some (.inr (8, fs))) (hlen : fs.length = 29) (g_cells : fs[3]? = some (.ref mce)) (fce : h mce = some (xI V 2400 f)) (hr : r * 6 + c < 2400) : xM V y_Mo_cell b_Mo_cell 3 (some .int) 0 [.ref m, .int (nI r), .int (nI c)] h 0 0 (fun v h' => h' = h ∧ v = some (.int (f (r * 6 + c)))) := by
  refine xM_of false (by decide) (fun h => nomatch h) (Nat.le_of_ble_eq_true rfl) (fun K C => ?_)
  show K 0 0 h 0 [(0, .ref m), (1, .int (nI r)), (2, .int (nI c))] []
  have he : (6 : Int32) * nI r + nI c = nI (r * 6 + c) := by rw [show (6 : Int32) * nI r = nI (6 * r) from pk_mul 6 r, nI_add, Nat.mul_comm]
  refine x_aload_n C d_Mo_cell_0 rfl rfl ?_
  refine x_get C k_Mo f_Mo_16 d_Mo_cell_1 fm g_cells ?_
  refine x_bipush (v := 6) C d_Mo_cell_4 (by decide) ?_
  refine x_iload_n C d_Mo_cell_6 rfl rfl ?_
  refine x_imul C d_Mo_cell_7 ?_
  refine x_iload_n C d_Mo_cell_8 rfl rfl ?_
  refine x_iadd C d_Mo_cell_9 ?_
  refine x_iald C d_Mo_cell_10 fce (by rw [he]; exact vp_in_nI hr (by decide)) ?_
  refine x_iret C d_Mo_cell_11 ?_
  exact ⟨rfl, by rw [he, nI_clamp (by omega)]⟩
set_option maxRecDepth 20000 in
set_option maxHeartbeats 1000000 in
theorem m_Mo_isFold {V : xV} {h : xH} {mhk mhn : Nat} {hk hn : Nat → Int32} {m : Nat} {fs : List Value} (fm : h m = some (.inr (8, fs))) (hlen : fs.length = 29) (g_hadKinds : fs[8]? = some (.ref mhk)) (g_hadNumbers : fs[9]? = some (.ref mhn)) (fhk : h mhk = some (xI V 60 hk)) (fhn : h mhn = some (xI V 60 hn)) : xM V y_Mo_isFold b_Mo_isFold 1 (some .boolean) 0 [.ref m] h 0 0 (fun v h' => h' = h ∧ v = some (.int (bI (decide (hk 1 = 0) && !decide (hn 1 = 4))))) := by
  refine xM_of false (by decide) (fun h => nomatch h) (Nat.le_of_ble_eq_true rfl) (fun K C => ?_)
  show K 0 0 h 0 [(0, .ref m)] []
  refine x_aload_n C d_Mo_isFold_0 rfl rfl ?_
  refine x_get C k_Mo f_Mo_25 d_Mo_isFold_1 fm g_hadKinds ?_
  refine x_iconst (v := 1) C d_Mo_isFold_4 (by decide) ?_
  refine x_iald C d_Mo_isFold_5 fhk (vp_in_nI (n := 1) (by decide) (by decide)) ?_
  rw [show (1 : Int32).toNatClampNeg = 1 by decide]
  refine x_if_ne (tgt := 23) C d_Mo_isFold_6 rfl (fun q6 => ?_) (fun q6 => ?_)
  · skip
    refine x_iconst (v := 0) C d_Mo_isFold_23 (by decide) ?_
    refine x_zret C d_Mo_isFold_24 (by rfl) ?_
    exact ⟨rfl, by simp [bI, *]⟩
  · skip
    refine x_aload_n C d_Mo_isFold_9 rfl rfl ?_
    refine x_get C k_Mo f_Mo_28 d_Mo_isFold_10 fm g_hadNumbers ?_
    refine x_iconst (v := 1) C d_Mo_isFold_13 (by decide) ?_
    refine x_iald C d_Mo_isFold_14 fhn (vp_in_nI (n := 1) (by decide) (by decide)) ?_
    rw [show (1 : Int32).toNatClampNeg = 1 by decide]
    refine x_iconst (v := 4) C d_Mo_isFold_15 (by decide) ?_
    refine x_icmp_eq (tgt := 23) C d_Mo_isFold_16 rfl (fun q16 => ?_) (fun q16 => ?_)
    · skip
      refine x_iconst (v := 0) C d_Mo_isFold_23 (by decide) ?_
      refine x_zret C d_Mo_isFold_24 (by rfl) ?_
      exact ⟨rfl, by simp [bI, *]⟩
    · skip
      refine x_iconst (v := 1) C d_Mo_isFold_19 (by decide) ?_
      refine x_goto (tgt := 24) C d_Mo_isFold_20 rfl ?_
      refine x_zret C d_Mo_isFold_24 (by rfl) ?_
      exact ⟨rfl, by simp [bI, *]⟩
set_option maxRecDepth 20000 in
set_option maxHeartbeats 1000000 in
theorem m_Mo_reset {V : xV} {h : xH} {th gv : Int32} {m : Nat} {fs : List Value} (fm : h m = some (.inr (8, fs))) (hlen : fs.length = 29) (g_there : fs[11]? = some (.int th)) (g_given : fs[18]? = some (.int gv)) : xM V y_Mo_reset b_Mo_reset 2 (some .int) 1 [.ref m] h 0 0 (fun v h' => ∃ fs', h' m = some (.inr (8, fs')) ∧ mUp [0, 17, 18, 19, 20, 21] fs fs' ∧ xKeep [m] h h' ∧ ((th = 0 ∧ v = some (.int 0) ∧ fs' = fs.set 0 (.int 1)) ∨ (¬ th = 0 ∧ v = some (.int gv) ∧ fs'[0]? = some (.int 0) ∧ fs'[17]? = some (.int 0) ∧ fs'[18]? = some (.int 0) ∧ fs'[19]? = some (.int (-1)) ∧ fs'[20]? = some (.int (-1)) ∧ fs'[21]? = some (.int 0)))) := by
  refine xM_of false (by decide) (fun h => nomatch h) (Nat.le_of_ble_eq_true rfl) (fun K C => ?_)
  show K 0 0 h 0 [(0, .ref m)] []
  have kp : xKeep [m] h h := xKeep.rf
  have mu : mUp [0, 17, 18, 19, 20, 21] fs fs := mUp.rf
  refine x_aload_n C d_Mo_reset_0 rfl rfl ?_
  refine x_aload_n C d_Mo_reset_1 rfl rfl ?_
  refine x_get C k_Mo f_Mo_130 d_Mo_reset_2 fm g_there ?_
  refine x_if_eq (tgt := 12) C d_Mo_reset_5 rfl (fun q5 => ?_) (fun q5 => ?_)
  · skip
    refine x_iconst (v := 1) C d_Mo_reset_12 (by decide) ?_
    refine x_put C k_Mo f_Mo_31 d_Mo_reset_13 fm (by rfl) (by rfl) (by rfl) (by omega) rfl (fun h1 u1 => ?_)
    have fm := xUp_at u1
    have kp := kp.up u1 (by simp)
    have g_there := gs_ne fm g_there (by decide)
    have g_given := gs_ne fm g_given (by decide)
    have g_thrown := gs_eq fm hlen (by decide)
    have mu := mu.setF fm (by decide)
    have hlen := gs_len fm hlen
    refine x_aload_n C d_Mo_reset_16 rfl rfl ?_
    refine x_get C k_Mo f_Mo_130 d_Mo_reset_17 fm g_there ?_
    refine x_if_ne (tgt := 25) C d_Mo_reset_20 rfl (fun q20 => ?_) (fun q20 => ?_)
    · skip
      refine x_aload_n C d_Mo_reset_25 rfl rfl ?_
      refine x_get C k_Mo f_Mo_139 d_Mo_reset_26 fm g_given ?_
      refine x_istore_n (lv' := [(1, _), (0, _)]) C d_Mo_reset_29 rfl (by decide) (by rfl) ?_
      refine x_aload_n C d_Mo_reset_30 rfl rfl ?_
      refine x_callV C l_Mo_133 v_Mo_begins d_Mo_reset_31 (m_Mo_begins fm hlen) fm rfl (by rfl) (by rfl) (by decide) (by decide) (Nat.le_of_ble_eq_true rfl) ?_
      rintro v2 h2 ⟨rfl, fs2, fm', mu2, g2_state, g2_given, g2_at, g2_beside, g2_row, kp2⟩
      have kp := kp.call kp2 (kc_c (Or.inl (by simp)) kc_n)
      have fm := fm'
      have hlen := mu2.1.trans hlen
      have g_there := mu2.get g_there (by decide)
      have g_thrown := mu2.get g_thrown (by decide)
      have g_state := g2_state
      have g_given := g2_given
      have g_at := g2_at
      have g_beside := g2_beside
      have g_row := g2_row
      have mu := mu.tr mu2 (by decide)
      refine x_iload_n C d_Mo_reset_34 rfl rfl ?_
      refine x_iret C d_Mo_reset_35 ?_
      first | exact ⟨_, fm, mu, kp, Or.inr ⟨q5, rfl, g_thrown, g_state, g_given, g_at, g_beside, g_row⟩⟩ | exact absurd q5 q20
    · skip
      refine x_iconst (v := 0) C d_Mo_reset_23 (by decide) ?_
      refine x_iret C d_Mo_reset_24 ?_
      first | exact ⟨_, fm, mu, kp, Or.inl ⟨q5, rfl, rfl⟩⟩ | exact absurd q20 q5
  · skip
    refine x_iconst (v := 0) C d_Mo_reset_8 (by decide) ?_
    refine x_goto (tgt := 13) C d_Mo_reset_9 rfl ?_
    refine x_put C k_Mo f_Mo_31 d_Mo_reset_13 fm (by rfl) (by rfl) (by rfl) (by omega) rfl (fun h3 u3 => ?_)
    have fm := xUp_at u3
    have kp := kp.up u3 (by simp)
    have g_there := gs_ne fm g_there (by decide)
    have g_given := gs_ne fm g_given (by decide)
    have g_thrown := gs_eq fm hlen (by decide)
    have mu := mu.setF fm (by decide)
    have hlen := gs_len fm hlen
    refine x_aload_n C d_Mo_reset_16 rfl rfl ?_
    refine x_get C k_Mo f_Mo_130 d_Mo_reset_17 fm g_there ?_
    refine x_if_ne (tgt := 25) C d_Mo_reset_20 rfl (fun q20 => ?_) (fun q20 => ?_)
    · skip
      refine x_aload_n C d_Mo_reset_25 rfl rfl ?_
      refine x_get C k_Mo f_Mo_139 d_Mo_reset_26 fm g_given ?_
      refine x_istore_n (lv' := [(1, _), (0, _)]) C d_Mo_reset_29 rfl (by decide) (by rfl) ?_
      refine x_aload_n C d_Mo_reset_30 rfl rfl ?_
      refine x_callV C l_Mo_133 v_Mo_begins d_Mo_reset_31 (m_Mo_begins fm hlen) fm rfl (by rfl) (by rfl) (by decide) (by decide) (Nat.le_of_ble_eq_true rfl) ?_
      rintro v4 h4 ⟨rfl, fs4, fm', mu4, g4_state, g4_given, g4_at, g4_beside, g4_row, kp4⟩
      have kp := kp.call kp4 (kc_c (Or.inl (by simp)) kc_n)
      have fm := fm'
      have hlen := mu4.1.trans hlen
      have g_there := mu4.get g_there (by decide)
      have g_thrown := mu4.get g_thrown (by decide)
      have g_state := g4_state
      have g_given := g4_given
      have g_at := g4_at
      have g_beside := g4_beside
      have g_row := g4_row
      have mu := mu.tr mu4 (by decide)
      refine x_iload_n C d_Mo_reset_34 rfl rfl ?_
      refine x_iret C d_Mo_reset_35 ?_
      first | exact ⟨_, fm, mu, kp, Or.inr ⟨q5, rfl, g_thrown, g_state, g_given, g_at, g_beside, g_row⟩⟩ | exact absurd q5 q20
    · skip
      refine x_iconst (v := 0) C d_Mo_reset_23 (by decide) ?_
      refine x_iret C d_Mo_reset_24 ?_
      first | exact ⟨_, fm, mu, kp, Or.inl ⟨q5, rfl, rfl⟩⟩ | exact absurd q20 q5
set_option maxRecDepth 20000 in
set_option maxHeartbeats 1000000 in
theorem m_Mo_value {V : xV} {h : xH} {mhk mhn mce : Nat} {hk hn f : Nat → Int32} {m : Nat} {fs : List Value} (fm : h m = some (.inr (8, fs))) (hlen : fs.length = 29) (g_hadKinds : fs[8]? = some (.ref mhk)) (g_hadNumbers : fs[9]? = some (.ref mhn)) (g_cells : fs[3]? = some (.ref mce)) (fhk : h mhk = some (xI V 60 hk)) (fhn : h mhn = some (xI V 60 hn)) (fce : h mce = some (xI V 2400 f)) {t a b : Nat} {A B : Int32} (ht : t < 60) (hin : mIn hk hn t A B a b) : xM V y_Mo_value b_Mo_value 5 (some .int) 1 [.ref m, .int (nI t), .int A, .int B] h 0 0 (fun v h' => h' = h ∧ v = some (.int (mVal hk hn f t a b))) := by
  refine xM_of false (by decide) (fun h => nomatch h) (Nat.le_of_ble_eq_true rfl) (fun K C => ?_)
  show K 0 0 h 0 [(0, .ref m), (1, .int (nI t)), (2, .int A), (3, .int B)] []
  refine x_aload_n C d_Mo_value_0 rfl rfl ?_
  refine x_get C k_Mo f_Mo_28 d_Mo_value_1 fm g_hadNumbers ?_
  refine x_iload_n C d_Mo_value_4 rfl rfl ?_
  refine x_iald C d_Mo_value_5 fhn (vp_in_nI ht (by decide)) ?_
  rw [nI_clamp (by omega)]
  refine x_istore (lv' := [(4, _), (0, _), (1, _), (2, _), (3, _)]) C d_Mo_value_6 (by decide) (by rfl) ?_
  refine x_aload_n C d_Mo_value_8 rfl rfl ?_
  refine x_get C k_Mo f_Mo_25 d_Mo_value_9 fm g_hadKinds ?_
  refine x_iload_n C d_Mo_value_12 rfl rfl ?_
  refine x_iald C d_Mo_value_13 fhk (vp_in_nI ht (by decide)) ?_
  rw [nI_clamp (by omega)]
  refine x_iconst (v := 3) C d_Mo_value_14 (by decide) ?_
  refine x_icmp_ne (tgt := 23) C d_Mo_value_15 rfl (fun q15 => ?_) (fun q15 => ?_)
  · skip
    refine x_iload C d_Mo_value_23 rfl ?_
    refine x_bipush (v := 9) C d_Mo_value_25 (by decide) ?_
    refine x_icmp_le (tgt := 43) C d_Mo_value_27 rfl (fun q27 => ?_) (fun q27 => ?_)
    · skip
      have q27' : ¬ 9 < hn t := Int32.not_lt.mpr q27
      obtain ⟨-, hA, ha4, hvi⟩ : ¬ 9 < hn t ∧ A = nI a ∧ a < 400 ∧ vp_in (hn t) 6 := by rcases hin with z | z | z; exact absurd z q15; exact absurd z.1 q27'; exact z
      obtain ⟨cN, hc6, hce⟩ := vp_in_of hvi (by decide)
      refine x_aload_n C d_Mo_value_43 rfl rfl ?_
      refine x_iload_n C d_Mo_value_44 rfl rfl ?_
      refine x_iload C d_Mo_value_45 rfl ?_
      rw [hce, hA]
      refine x_callV C l_Mo_151 v_Mo_cell d_Mo_value_47 (m_Mo_cell (r := a) (c := cN) fm hlen g_cells fce (by omega)) fm rfl (by rfl) (by rfl) (by decide) (by decide) (Nat.le_of_ble_eq_true rfl) ?_
      rintro v9 h9 ⟨rfl, rfl⟩
      refine x_iret C d_Mo_value_50 ?_
      refine ⟨rfl, ?_⟩
      unfold mVal
      first | (rw [if_pos q15]; done) | (rw [if_neg q15, if_pos q27', hce, nI_clamp (by omega)]; done) | (rw [if_neg q15, if_neg q27', hce, nI_clamp (by omega)]; done)
    · skip
      have q27' : 9 < hn t := Int32.not_le.mp q27
      obtain ⟨-, hB, hb4, hvi⟩ : 9 < hn t ∧ B = nI b ∧ b < 400 ∧ vp_in (hn t - 10) 6 := by rcases hin with z | z | z; exact absurd z q15; exact z; exact absurd q27' z.1
      obtain ⟨cN, hc6, hce⟩ := vp_in_of hvi (by decide)
      refine x_aload_n C d_Mo_value_30 rfl rfl ?_
      refine x_iload_n C d_Mo_value_31 rfl rfl ?_
      refine x_iload C d_Mo_value_32 rfl ?_
      refine x_bipush (v := 10) C d_Mo_value_34 (by decide) ?_
      refine x_isub C d_Mo_value_36 ?_
      rw [hce, hB]
      refine x_callV C l_Mo_151 v_Mo_cell d_Mo_value_37 (m_Mo_cell (r := b) (c := cN) fm hlen g_cells fce (by omega)) fm rfl (by rfl) (by rfl) (by decide) (by decide) (Nat.le_of_ble_eq_true rfl) ?_
      rintro v9 h9 ⟨rfl, rfl⟩
      refine x_goto (tgt := 50) C d_Mo_value_40 rfl ?_
      refine x_iret C d_Mo_value_50 ?_
      refine ⟨rfl, ?_⟩
      unfold mVal
      first | (rw [if_pos q15]; done) | (rw [if_neg q15, if_pos q27', hce, nI_clamp (by omega)]; done) | (rw [if_neg q15, if_neg q27', hce, nI_clamp (by omega)]; done)
  · skip
    refine x_iload C d_Mo_value_18 rfl ?_
    refine x_goto (tgt := 50) C d_Mo_value_20 rfl ?_
    refine x_iret C d_Mo_value_50 ?_
    refine ⟨rfl, ?_⟩
    unfold mVal
    first | (rw [if_pos q15]; done) | (rw [if_neg q15, if_pos q27', hce, nI_clamp (by omega)]; done) | (rw [if_neg q15, if_neg q27', hce, nI_clamp (by omega)]; done)
set_option maxRecDepth 20000 in
set_option maxHeartbeats 1000000 in
theorem m_Mo_holds {V : xV} {h : xH} {mhk mhn mce : Nat} {hk hn f : Nat → Int32} {m : Nat} {fs : List Value} (fm : h m = some (.inr (8, fs))) (hlen : fs.length = 29) (g_hadKinds : fs[8]? = some (.ref mhk)) (g_hadNumbers : fs[9]? = some (.ref mhn)) (g_cells : fs[3]? = some (.ref mce)) (fhk : h mhk = some (xI V 60 hk)) (fhn : h mhn = some (xI V 60 hn)) (fce : h mce = some (xI V 2400 f)) {fr kc T a b : Nat} {A B : Int32} (g_from : fs[14]? = some (.int (nI fr))) (g_to : fs[15]? = some (.int (nI T))) (hfr : fr + 4 * kc ≤ 64) (hT : ∀ j, j < kc → fr + 4 * j + 2 < T) (hT2 : T ≤ fr + 4 * kc) (hT6 : T ≤ 60) (hin : ∀ j, j < kc → mIn hk hn (fr + 4 * j) A B a b ∧ mIn hk hn (fr + 4 * j + 2) A B a b) : xM V y_Mo_holds b_Mo_holds 8 (some .boolean) 2 [.ref m, .int A, .int B] h 0 0 (fun v h' => h' = h ∧ v = some (.int (bI (decide (∀ jj, jj < kc → cmp (hn (fr + 4 * jj + 1)) (mVal hk hn f (fr + 4 * jj) a b) (mVal hk hn f (fr + 4 * jj + 2) a b) = true))))) := by
  refine xM_of false (by decide) (fun h => nomatch h) (Nat.le_of_ble_eq_true rfl) (fun K C => ?_)
  show K 0 0 h 0 [(0, .ref m), (1, .int A), (2, .int B)] []
  have loop : ∀ mq : Nat, ∀ (j : Nat) (bb : Bool), kc - j < mq → j ≤ kc → bb = decide (∀ jj, jj < j → cmp (hn (fr + 4 * jj + 1)) (mVal hk hn f (fr + 4 * jj) a b) (mVal hk hn f (fr + 4 * jj + 2) a b) = true) → K 0 0 h 8 [(4, .int (nI (fr + 4 * j))), (3, .int (bI bb)), (0, .ref m), (1, .int A), (2, .int B)] [] := by
    intro mq
    induction mq with
    | zero => intro j bb hm hj hbb; omega
    | succ mq ih =>
      intro j bb hm hj hbb
      refine x_iload C d_Mo_holds_8 rfl ?_
      refine x_aload_n C d_Mo_holds_10 rfl rfl ?_
      refine x_get C k_Mo f_Mo_124 d_Mo_holds_11 fm g_to ?_
      refine x_icmp_ge (tgt := 107) C d_Mo_holds_14 rfl (fun q14 => ?_) (fun q14 => ?_)
      · skip
        have hj2 : j = kc := by have := nge_of q14 (by omega); rcases Nat.lt_or_ge j kc with z | z; have := hT j z; omega; omega
        refine x_iload_n C d_Mo_holds_107 rfl rfl ?_
        refine x_zret C d_Mo_holds_108 (by cases bb <;> rfl) ?_
        subst hj2
        exact ⟨rfl, by rw [hbb]⟩
      · skip
        have hj2 : j < kc := by have := nlt_of q14 (by omega) (by omega); omega
        have hjT := hT j hj2
        refine x_aload_n C d_Mo_holds_17 rfl rfl ?_
        refine x_iload C d_Mo_holds_18 rfl ?_
        refine x_iload_n C d_Mo_holds_20 rfl rfl ?_
        refine x_iload_n C d_Mo_holds_21 rfl rfl ?_
        refine x_callV C l_Mo_155 v_Mo_value d_Mo_holds_22 (m_Mo_value (t := fr + 4 * j) fm hlen g_hadKinds g_hadNumbers g_cells fhk fhn fce (by omega) (hin j hj2).1) fm rfl (by rfl) (by rfl) (by decide) (by decide) (Nat.le_of_ble_eq_true rfl) ?_
        rintro v9 h9 ⟨rfl, rfl⟩
        refine x_istore (lv' := [(5, _), (4, _), (3, _), (0, _), (1, _), (2, _)]) C d_Mo_holds_25 (by decide) (by rfl) ?_
        refine x_aload_n C d_Mo_holds_27 rfl rfl ?_
        refine x_iload C d_Mo_holds_28 rfl ?_
        refine x_iconst (v := 2) C d_Mo_holds_30 (by decide) ?_
        refine x_iadd C d_Mo_holds_31 ?_
        refine x_iload_n C d_Mo_holds_32 rfl rfl ?_
        refine x_iload_n C d_Mo_holds_33 rfl rfl ?_
        rw [show nI (fr + 4 * j) + 2 = nI (fr + 4 * j + 2) from nI_add _ 2]
        refine x_callV C l_Mo_155 v_Mo_value d_Mo_holds_34 (m_Mo_value (t := fr + 4 * j + 2) fm hlen g_hadKinds g_hadNumbers g_cells fhk fhn fce (by omega) (hin j hj2).2) fm rfl (by rfl) (by rfl) (by decide) (by decide) (Nat.le_of_ble_eq_true rfl) ?_
        rintro v9 h9 ⟨rfl, rfl⟩
        refine x_istore (lv' := [(6, _), (5, _), (4, _), (3, _), (0, _), (1, _), (2, _)]) C d_Mo_holds_37 (by decide) (by rfl) ?_
        refine x_aload_n C d_Mo_holds_39 rfl rfl ?_
        refine x_get C k_Mo f_Mo_28 d_Mo_holds_40 fm g_hadNumbers ?_
        refine x_iload C d_Mo_holds_43 rfl ?_
        refine x_iconst (v := 1) C d_Mo_holds_45 (by decide) ?_
        refine x_iadd C d_Mo_holds_46 ?_
        rw [nI_1]
        refine x_iald C d_Mo_holds_47 fhn (vp_in_nI (by omega) (by decide)) ?_
        rw [nI_clamp (by omega)]
        refine x_istore (lv' := [(7, _), (6, _), (5, _), (4, _), (3, _), (0, _), (1, _), (2, _)]) C d_Mo_holds_48 (by decide) (by rfl) ?_
        refine x_iload_n C d_Mo_holds_50 rfl rfl ?_
        refine x_if_eq (tgt := 99) C d_Mo_holds_51 rfl (fun q51 => ?_) (fun q51 => ?_)
        · skip
          have hb := bI_f q51
          refine x_iconst (v := 0) C d_Mo_holds_99 (by decide) ?_
          refine x_istore_n (lv' := [(3, _), (7, _), (6, _), (5, _), (4, _), (0, _), (1, _), (2, _)]) C d_Mo_holds_100 rfl (by decide) (by rfl) ?_
          refine x_iinc (v := nI (fr + 4 * (j + 1))) (k0 := 4) (lv' := [(4, _), (3, _), (7, _), (6, _), (5, _), (0, _), (1, _), (2, _)]) C d_Mo_holds_101 (by rfl) (by rw [show Int32.ofInt 4 = nI 4 by decide, nI_add, show fr + 4 * j + 4 = fr + 4 * (j + 1) by omega]) (by decide) (by rfl) ?_
          refine x_goto (tgt := 8) C d_Mo_holds_104 rfl ?_
          refine x_lv (lv' := [(4, _), (3, _), (0, _), (1, _), (2, _)]) [0, 1, 5, 6, 7] C (by rfl) ?_
          have hcm : ∀ z : Bool, cmp (hn (fr + 4 * j + 1)) (mVal hk hn f (fr + 4 * j) a b) (mVal hk hn f (fr + 4 * j + 2) a b) = z → (bb && z) = decide (∀ jj, jj < (j + 1) → cmp (hn (fr + 4 * jj + 1)) (mVal hk hn f (fr + 4 * jj) a b) (mVal hk hn f (fr + 4 * jj + 2) a b) = true) := fun z hz => all_step hbb hz
          first | exact ih (j + 1) false (by omega) (by omega) (by rw [← hcm _ rfl, hb]; rfl) | exact ih (j + 1) true (by omega) (by omega) (by rw [← hcm true (by unfold cmp; simp [*]), hb]; rfl) | exact ih (j + 1) false (by omega) (by omega) (by rw [← hcm false (by unfold cmp; simp [*]), hb]; rfl)
        · skip
          have hb := bI_t q51
          refine x_iload C d_Mo_holds_54 rfl ?_
          refine x_bipush (v := 10) C d_Mo_holds_56 (by decide) ?_
          refine x_icmp_ne (tgt := 71) C d_Mo_holds_58 rfl (fun q58 => ?_) (fun q58 => ?_)
          · skip
            refine x_iload C d_Mo_holds_71 rfl ?_
            refine x_bipush (v := 11) C d_Mo_holds_73 (by decide) ?_
            refine x_icmp_ne (tgt := 88) C d_Mo_holds_75 rfl (fun q75 => ?_) (fun q75 => ?_)
            · skip
              refine x_iload C d_Mo_holds_88 rfl ?_
              refine x_iload C d_Mo_holds_90 rfl ?_
              refine x_icmp_le (tgt := 99) C d_Mo_holds_92 rfl (fun q92 => ?_) (fun q92 => ?_)
              · skip
                refine x_iconst (v := 0) C d_Mo_holds_99 (by decide) ?_
                refine x_istore_n (lv' := [(3, _), (7, _), (6, _), (5, _), (4, _), (0, _), (1, _), (2, _)]) C d_Mo_holds_100 rfl (by decide) (by rfl) ?_
                refine x_iinc (v := nI (fr + 4 * (j + 1))) (k0 := 4) (lv' := [(4, _), (3, _), (7, _), (6, _), (5, _), (0, _), (1, _), (2, _)]) C d_Mo_holds_101 (by rfl) (by rw [show Int32.ofInt 4 = nI 4 by decide, nI_add, show fr + 4 * j + 4 = fr + 4 * (j + 1) by omega]) (by decide) (by rfl) ?_
                refine x_goto (tgt := 8) C d_Mo_holds_104 rfl ?_
                refine x_lv (lv' := [(4, _), (3, _), (0, _), (1, _), (2, _)]) [0, 1, 5, 6, 7] C (by rfl) ?_
                have hcm : ∀ z : Bool, cmp (hn (fr + 4 * j + 1)) (mVal hk hn f (fr + 4 * j) a b) (mVal hk hn f (fr + 4 * j + 2) a b) = z → (bb && z) = decide (∀ jj, jj < (j + 1) → cmp (hn (fr + 4 * jj + 1)) (mVal hk hn f (fr + 4 * jj) a b) (mVal hk hn f (fr + 4 * jj + 2) a b) = true) := fun z hz => all_step hbb hz
                first | exact ih (j + 1) false (by omega) (by omega) (by rw [← hcm _ rfl, hb]; rfl) | exact ih (j + 1) true (by omega) (by omega) (by rw [← hcm true (by unfold cmp; simp [*]), hb]; rfl) | exact ih (j + 1) false (by omega) (by omega) (by rw [← hcm false (by unfold cmp; simp [*]), hb]; rfl)
              · skip
                refine x_iconst (v := 1) C d_Mo_holds_95 (by decide) ?_
                refine x_goto (tgt := 100) C d_Mo_holds_96 rfl ?_
                refine x_istore_n (lv' := [(3, _), (7, _), (6, _), (5, _), (4, _), (0, _), (1, _), (2, _)]) C d_Mo_holds_100 rfl (by decide) (by rfl) ?_
                refine x_iinc (v := nI (fr + 4 * (j + 1))) (k0 := 4) (lv' := [(4, _), (3, _), (7, _), (6, _), (5, _), (0, _), (1, _), (2, _)]) C d_Mo_holds_101 (by rfl) (by rw [show Int32.ofInt 4 = nI 4 by decide, nI_add, show fr + 4 * j + 4 = fr + 4 * (j + 1) by omega]) (by decide) (by rfl) ?_
                refine x_goto (tgt := 8) C d_Mo_holds_104 rfl ?_
                refine x_lv (lv' := [(4, _), (3, _), (0, _), (1, _), (2, _)]) [0, 1, 5, 6, 7] C (by rfl) ?_
                have hcm : ∀ z : Bool, cmp (hn (fr + 4 * j + 1)) (mVal hk hn f (fr + 4 * j) a b) (mVal hk hn f (fr + 4 * j + 2) a b) = z → (bb && z) = decide (∀ jj, jj < (j + 1) → cmp (hn (fr + 4 * jj + 1)) (mVal hk hn f (fr + 4 * jj) a b) (mVal hk hn f (fr + 4 * jj + 2) a b) = true) := fun z hz => all_step hbb hz
                first | exact ih (j + 1) false (by omega) (by omega) (by rw [← hcm _ rfl, hb]; rfl) | exact ih (j + 1) true (by omega) (by omega) (by rw [← hcm true (by unfold cmp; simp [*]), hb]; rfl) | exact ih (j + 1) false (by omega) (by omega) (by rw [← hcm false (by unfold cmp; simp [*]), hb]; rfl)
            · skip
              refine x_iload C d_Mo_holds_78 rfl ?_
              refine x_iload C d_Mo_holds_80 rfl ?_
              refine x_icmp_ge (tgt := 99) C d_Mo_holds_82 rfl (fun q82 => ?_) (fun q82 => ?_)
              · skip
                refine x_iconst (v := 0) C d_Mo_holds_99 (by decide) ?_
                refine x_istore_n (lv' := [(3, _), (7, _), (6, _), (5, _), (4, _), (0, _), (1, _), (2, _)]) C d_Mo_holds_100 rfl (by decide) (by rfl) ?_
                refine x_iinc (v := nI (fr + 4 * (j + 1))) (k0 := 4) (lv' := [(4, _), (3, _), (7, _), (6, _), (5, _), (0, _), (1, _), (2, _)]) C d_Mo_holds_101 (by rfl) (by rw [show Int32.ofInt 4 = nI 4 by decide, nI_add, show fr + 4 * j + 4 = fr + 4 * (j + 1) by omega]) (by decide) (by rfl) ?_
                refine x_goto (tgt := 8) C d_Mo_holds_104 rfl ?_
                refine x_lv (lv' := [(4, _), (3, _), (0, _), (1, _), (2, _)]) [0, 1, 5, 6, 7] C (by rfl) ?_
                have hcm : ∀ z : Bool, cmp (hn (fr + 4 * j + 1)) (mVal hk hn f (fr + 4 * j) a b) (mVal hk hn f (fr + 4 * j + 2) a b) = z → (bb && z) = decide (∀ jj, jj < (j + 1) → cmp (hn (fr + 4 * jj + 1)) (mVal hk hn f (fr + 4 * jj) a b) (mVal hk hn f (fr + 4 * jj + 2) a b) = true) := fun z hz => all_step hbb hz
                first | exact ih (j + 1) false (by omega) (by omega) (by rw [← hcm _ rfl, hb]; rfl) | exact ih (j + 1) true (by omega) (by omega) (by rw [← hcm true (by unfold cmp; simp [*]), hb]; rfl) | exact ih (j + 1) false (by omega) (by omega) (by rw [← hcm false (by unfold cmp; simp [*]), hb]; rfl)
              · skip
                refine x_goto (tgt := 95) C d_Mo_holds_85 rfl ?_
                refine x_iconst (v := 1) C d_Mo_holds_95 (by decide) ?_
                refine x_goto (tgt := 100) C d_Mo_holds_96 rfl ?_
                refine x_istore_n (lv' := [(3, _), (7, _), (6, _), (5, _), (4, _), (0, _), (1, _), (2, _)]) C d_Mo_holds_100 rfl (by decide) (by rfl) ?_
                refine x_iinc (v := nI (fr + 4 * (j + 1))) (k0 := 4) (lv' := [(4, _), (3, _), (7, _), (6, _), (5, _), (0, _), (1, _), (2, _)]) C d_Mo_holds_101 (by rfl) (by rw [show Int32.ofInt 4 = nI 4 by decide, nI_add, show fr + 4 * j + 4 = fr + 4 * (j + 1) by omega]) (by decide) (by rfl) ?_
                refine x_goto (tgt := 8) C d_Mo_holds_104 rfl ?_
                refine x_lv (lv' := [(4, _), (3, _), (0, _), (1, _), (2, _)]) [0, 1, 5, 6, 7] C (by rfl) ?_
                have hcm : ∀ z : Bool, cmp (hn (fr + 4 * j + 1)) (mVal hk hn f (fr + 4 * j) a b) (mVal hk hn f (fr + 4 * j + 2) a b) = z → (bb && z) = decide (∀ jj, jj < (j + 1) → cmp (hn (fr + 4 * jj + 1)) (mVal hk hn f (fr + 4 * jj) a b) (mVal hk hn f (fr + 4 * jj + 2) a b) = true) := fun z hz => all_step hbb hz
                first | exact ih (j + 1) false (by omega) (by omega) (by rw [← hcm _ rfl, hb]; rfl) | exact ih (j + 1) true (by omega) (by omega) (by rw [← hcm true (by unfold cmp; simp [*]), hb]; rfl) | exact ih (j + 1) false (by omega) (by omega) (by rw [← hcm false (by unfold cmp; simp [*]), hb]; rfl)
          · skip
            refine x_iload C d_Mo_holds_61 rfl ?_
            refine x_iload C d_Mo_holds_63 rfl ?_
            refine x_icmp_ne (tgt := 99) C d_Mo_holds_65 rfl (fun q65 => ?_) (fun q65 => ?_)
            · skip
              refine x_iconst (v := 0) C d_Mo_holds_99 (by decide) ?_
              refine x_istore_n (lv' := [(3, _), (7, _), (6, _), (5, _), (4, _), (0, _), (1, _), (2, _)]) C d_Mo_holds_100 rfl (by decide) (by rfl) ?_
              refine x_iinc (v := nI (fr + 4 * (j + 1))) (k0 := 4) (lv' := [(4, _), (3, _), (7, _), (6, _), (5, _), (0, _), (1, _), (2, _)]) C d_Mo_holds_101 (by rfl) (by rw [show Int32.ofInt 4 = nI 4 by decide, nI_add, show fr + 4 * j + 4 = fr + 4 * (j + 1) by omega]) (by decide) (by rfl) ?_
              refine x_goto (tgt := 8) C d_Mo_holds_104 rfl ?_
              refine x_lv (lv' := [(4, _), (3, _), (0, _), (1, _), (2, _)]) [0, 1, 5, 6, 7] C (by rfl) ?_
              have hcm : ∀ z : Bool, cmp (hn (fr + 4 * j + 1)) (mVal hk hn f (fr + 4 * j) a b) (mVal hk hn f (fr + 4 * j + 2) a b) = z → (bb && z) = decide (∀ jj, jj < (j + 1) → cmp (hn (fr + 4 * jj + 1)) (mVal hk hn f (fr + 4 * jj) a b) (mVal hk hn f (fr + 4 * jj + 2) a b) = true) := fun z hz => all_step hbb hz
              first | exact ih (j + 1) false (by omega) (by omega) (by rw [← hcm _ rfl, hb]; rfl) | exact ih (j + 1) true (by omega) (by omega) (by rw [← hcm true (by unfold cmp; simp [*]), hb]; rfl) | exact ih (j + 1) false (by omega) (by omega) (by rw [← hcm false (by unfold cmp; simp [*]), hb]; rfl)
            · skip
              refine x_goto (tgt := 95) C d_Mo_holds_68 rfl ?_
              refine x_iconst (v := 1) C d_Mo_holds_95 (by decide) ?_
              refine x_goto (tgt := 100) C d_Mo_holds_96 rfl ?_
              refine x_istore_n (lv' := [(3, _), (7, _), (6, _), (5, _), (4, _), (0, _), (1, _), (2, _)]) C d_Mo_holds_100 rfl (by decide) (by rfl) ?_
              refine x_iinc (v := nI (fr + 4 * (j + 1))) (k0 := 4) (lv' := [(4, _), (3, _), (7, _), (6, _), (5, _), (0, _), (1, _), (2, _)]) C d_Mo_holds_101 (by rfl) (by rw [show Int32.ofInt 4 = nI 4 by decide, nI_add, show fr + 4 * j + 4 = fr + 4 * (j + 1) by omega]) (by decide) (by rfl) ?_
              refine x_goto (tgt := 8) C d_Mo_holds_104 rfl ?_
              refine x_lv (lv' := [(4, _), (3, _), (0, _), (1, _), (2, _)]) [0, 1, 5, 6, 7] C (by rfl) ?_
              have hcm : ∀ z : Bool, cmp (hn (fr + 4 * j + 1)) (mVal hk hn f (fr + 4 * j) a b) (mVal hk hn f (fr + 4 * j + 2) a b) = z → (bb && z) = decide (∀ jj, jj < (j + 1) → cmp (hn (fr + 4 * jj + 1)) (mVal hk hn f (fr + 4 * jj) a b) (mVal hk hn f (fr + 4 * jj + 2) a b) = true) := fun z hz => all_step hbb hz
              first | exact ih (j + 1) false (by omega) (by omega) (by rw [← hcm _ rfl, hb]; rfl) | exact ih (j + 1) true (by omega) (by omega) (by rw [← hcm true (by unfold cmp; simp [*]), hb]; rfl) | exact ih (j + 1) false (by omega) (by omega) (by rw [← hcm false (by unfold cmp; simp [*]), hb]; rfl)
  refine x_iconst (v := 1) C d_Mo_holds_0 (by decide) ?_
  refine x_istore_n (lv' := [(3, _), (0, _), (1, _), (2, _)]) C d_Mo_holds_1 rfl (by decide) (by rfl) ?_
  refine x_aload_n C d_Mo_holds_2 rfl rfl ?_
  refine x_get C k_Mo f_Mo_121 d_Mo_holds_3 fm g_from ?_
  refine x_istore (lv' := [(4, _), (3, _), (0, _), (1, _), (2, _)]) C d_Mo_holds_6 (by decide) (by rfl) ?_
  exact loop (kc + 1) 0 true (by omega) (by omega) (by simp)
set_option maxRecDepth 20000 in
set_option maxHeartbeats 1000000 in
theorem m_Mo_findKey {V : xV} {h : xH} {mof mce N : Nat} {of f : Nat → Int32} {m : Nat} {fs : List Value} (fm : h m = some (.inr (8, fs))) (hlen : fs.length = 29) (g_of : fs[2]? = some (.ref mof)) (g_cells : fs[3]? = some (.ref mce)) (g_rows : fs[4]? = some (.int (nI N))) (fof : h mof = some (xI V 400 of)) (fce : h mce = some (xI V 2400 f)) (hN : N ≤ 400) (t key : Int32) : xM V y_Mo_findKey b_Mo_findKey 5 (some .int) 1 [.ref m, .int t, .int key] h 0 0 (fun v h' => h' = h ∧ ∃ r, v = some (.int r) ∧ ((r = -1 ∧ ∀ k, k < N → ¬ (of k = t ∧ f (k * 6) = key)) ∨ ∃ k, k < N ∧ r = nI k ∧ of k = t ∧ f (k * 6) = key)) := by
  refine xM_of false (by decide) (fun h => nomatch h) (Nat.le_of_ble_eq_true rfl) (fun K C => ?_)
  show K 0 0 h 0 [(0, .ref m), (1, .int t), (2, .int key)] []
  have loop : ∀ mq : Nat, ∀ (i : Nat) (r : Int32), N - i < mq → i ≤ N → ((r = -1 ∧ ∀ k, k < i → ¬ (of k = t ∧ f (k * 6) = key)) ∨ ∃ k, k < i ∧ r = nI k ∧ of k = t ∧ f (k * 6) = key) → K 0 0 h 5 [(4, .int (nI i)), (3, .int r), (0, .ref m), (1, .int t), (2, .int key)] [] := by
    intro mq
    induction mq with
    | zero => intro i r hm hi hr; omega
    | succ mq ih =>
      intro i r hm hi hr
      refine x_iload C d_Mo_findKey_5 rfl ?_
      refine x_aload_n C d_Mo_findKey_7 rfl rfl ?_
      refine x_get C k_Mo f_Mo_159 d_Mo_findKey_8 fm g_rows ?_
      refine x_icmp_ge (tgt := 49) C d_Mo_findKey_11 rfl (fun q11 => ?_) (fun q11 => ?_)
      · skip
        have hi2 : i = N := by have := nge_of q11 (by omega); omega
        refine x_iload_n C d_Mo_findKey_49 rfl rfl ?_
        refine x_iret C d_Mo_findKey_50 ?_
        subst hi2
        exact ⟨rfl, r, rfl, hr⟩
      · skip
        have hi2 := nlt_of q11 (by omega) (by omega)
        refine x_aload_n C d_Mo_findKey_14 rfl rfl ?_
        refine x_get C k_Mo f_Mo_13 d_Mo_findKey_15 fm g_of ?_
        refine x_iload C d_Mo_findKey_18 rfl ?_
        refine x_iald C d_Mo_findKey_20 fof (vp_in_nI (by omega) (by decide)) ?_
        rw [nI_clamp (by omega)]
        refine x_iload_n C d_Mo_findKey_21 rfl rfl ?_
        refine x_icmp_ne (tgt := 41) C d_Mo_findKey_22 rfl (fun q22 => ?_) (fun q22 => ?_)
        · skip
          refine x_iload_n C d_Mo_findKey_41 rfl rfl ?_
          refine x_istore_n (lv' := [(3, _), (4, _), (0, _), (1, _), (2, _)]) C d_Mo_findKey_42 rfl (by decide) (by rfl) ?_
          refine x_iinc (v := nI (i + 1)) (k0 := 1) (lv' := [(4, _), (3, _), (0, _), (1, _), (2, _)]) C d_Mo_findKey_43 (by rfl) (nI_1 i) (by decide) (by rfl) ?_
          refine x_goto (tgt := 5) C d_Mo_findKey_46 rfl ?_
          refine ih (i + 1) _ (by omega) (by omega) ?_
          first | exact Or.inr ⟨i, by omega, rfl, q22, q33⟩ | (rcases hr with z | ⟨k, z1, z2⟩; exact Or.inl ⟨z.1, lt_s z.2 (fun y => by first | exact q22 y.1 | exact q33 y.2)⟩; exact Or.inr ⟨k, by omega, z2⟩)
        · skip
          refine x_aload_n C d_Mo_findKey_25 rfl rfl ?_
          refine x_iload C d_Mo_findKey_26 rfl ?_
          refine x_iconst (v := 0) C d_Mo_findKey_28 (by decide) ?_
          refine x_callV C l_Mo_151 v_Mo_cell d_Mo_findKey_29 (m_Mo_cell (r := i) (c := 0) fm hlen g_cells fce (by omega)) fm rfl (by rfl) (by rfl) (by decide) (by decide) (Nat.le_of_ble_eq_true rfl) ?_
          rintro v9 h9 ⟨rfl, rfl⟩
          rw [Nat.add_zero]
          refine x_iload_n C d_Mo_findKey_32 rfl rfl ?_
          refine x_icmp_ne (tgt := 41) C d_Mo_findKey_33 rfl (fun q33 => ?_) (fun q33 => ?_)
          · skip
            refine x_iload_n C d_Mo_findKey_41 rfl rfl ?_
            refine x_istore_n (lv' := [(3, _), (4, _), (0, _), (1, _), (2, _)]) C d_Mo_findKey_42 rfl (by decide) (by rfl) ?_
            refine x_iinc (v := nI (i + 1)) (k0 := 1) (lv' := [(4, _), (3, _), (0, _), (1, _), (2, _)]) C d_Mo_findKey_43 (by rfl) (nI_1 i) (by decide) (by rfl) ?_
            refine x_goto (tgt := 5) C d_Mo_findKey_46 rfl ?_
            refine ih (i + 1) _ (by omega) (by omega) ?_
            first | exact Or.inr ⟨i, by omega, rfl, q22, q33⟩ | (rcases hr with z | ⟨k, z1, z2⟩; exact Or.inl ⟨z.1, lt_s z.2 (fun y => by first | exact q22 y.1 | exact q33 y.2)⟩; exact Or.inr ⟨k, by omega, z2⟩)
          · skip
            refine x_iload C d_Mo_findKey_36 rfl ?_
            refine x_goto (tgt := 42) C d_Mo_findKey_38 rfl ?_
            refine x_istore_n (lv' := [(3, _), (4, _), (0, _), (1, _), (2, _)]) C d_Mo_findKey_42 rfl (by decide) (by rfl) ?_
            refine x_iinc (v := nI (i + 1)) (k0 := 1) (lv' := [(4, _), (3, _), (0, _), (1, _), (2, _)]) C d_Mo_findKey_43 (by rfl) (nI_1 i) (by decide) (by rfl) ?_
            refine x_goto (tgt := 5) C d_Mo_findKey_46 rfl ?_
            refine ih (i + 1) _ (by omega) (by omega) ?_
            first | exact Or.inr ⟨i, by omega, rfl, q22, q33⟩ | (rcases hr with z | ⟨k, z1, z2⟩; exact Or.inl ⟨z.1, lt_s z.2 (fun y => by first | exact q22 y.1 | exact q33 y.2)⟩; exact Or.inr ⟨k, by omega, z2⟩)
  refine x_iconst (v := -1) C d_Mo_findKey_0 (by decide) ?_
  refine x_istore_n (lv' := [(3, _), (0, _), (1, _), (2, _)]) C d_Mo_findKey_1 rfl (by decide) (by rfl) ?_
  refine x_iconst (v := 0) C d_Mo_findKey_2 (by decide) ?_
  refine x_istore (lv' := [(4, _), (3, _), (0, _), (1, _), (2, _)]) C d_Mo_findKey_3 (by decide) (by rfl) ?_
  exact loop (N + 1) 0 (-1) (by omega) (by omega) (Or.inl ⟨rfl, lt_0⟩)
set_option maxRecDepth 20000 in
set_option maxHeartbeats 1000000 in
theorem m_Mo_behind {V : xV} {h : xH} {mof mce N : Nat} {of f : Nat → Int32} {m : Nat} {fs : List Value} (fm : h m = some (.inr (8, fs))) (hlen : fs.length = 29) (g_of : fs[2]? = some (.ref mof)) (g_cells : fs[3]? = some (.ref mce)) (g_rows : fs[4]? = some (.int (nI N))) (fof : h mof = some (xI V 400 of)) (fce : h mce = some (xI V 2400 f)) (hN : N ≤ 400) {fl : Int32} (g_falls : fs[16]? = some (.int fl)) (t R : Int32) {r0 : Nat} (hr0 : R = -1 ∨ (R = nI r0 ∧ r0 < 400)) : xM V y_Mo_behind b_Mo_behind 6 (some .int) 1 [.ref m, .int t, .int R] h 0 0 (fun v h' => h' = h ∧ ∃ bs, v = some (.int bs) ∧ mBh (fun k => (of k = t ∧ (R = -1 ∨ nrr fl (f (r0 * 6)) (f (k * 6))))) fl (fun k => f (k * 6)) N bs) := by
  refine xM_of false (by decide) (fun h => nomatch h) (Nat.le_of_ble_eq_true rfl) (fun K C => ?_)
  show K 0 0 h 0 [(0, .ref m), (1, .int t), (2, .int R)] []
  have loop : ∀ mq : Nat, ∀ (i : Nat) (bs : Int32), N - i < mq → i ≤ N → mBh (fun k => (of k = t ∧ (R = -1 ∨ nrr fl (f (r0 * 6)) (f (k * 6))))) fl (fun k => f (k * 6)) i bs → K 0 0 h 5 [(4, .int (nI i)), (3, .int bs), (0, .ref m), (1, .int t), (2, .int R)] [] := by
    intro mq
    induction mq with
    | zero => intro i bs hm hi hr; omega
    | succ mq ih =>
      intro i bs hm hi hr
      refine x_iload C d_Mo_behind_5 rfl ?_
      refine x_aload_n C d_Mo_behind_7 rfl rfl ?_
      refine x_get C k_Mo f_Mo_159 d_Mo_behind_8 fm g_rows ?_
      refine x_icmp_ge (tgt := 144) C d_Mo_behind_11 rfl (fun q11 => ?_) (fun q11 => ?_)
      · skip
        have hi2 : i = N := by have := nge_of q11 (by omega); omega
        refine x_iload_n C d_Mo_behind_144 rfl rfl ?_
        refine x_iret C d_Mo_behind_145 ?_
        subst hi2
        exact ⟨rfl, bs, rfl, hr⟩
      · skip
        have hi2 := nlt_of q11 (by omega) (by omega)
        refine x_aload_n C d_Mo_behind_14 rfl rfl ?_
        refine x_get C k_Mo f_Mo_13 d_Mo_behind_15 fm g_of ?_
        refine x_iload C d_Mo_behind_18 rfl ?_
        refine x_iald C d_Mo_behind_20 fof (vp_in_nI (by omega) (by decide)) ?_
        rw [nI_clamp (by omega)]
        refine x_iload_n C d_Mo_behind_21 rfl rfl ?_
        refine x_icmp_ne (tgt := 138) C d_Mo_behind_22 rfl (fun q22 => ?_) (fun q22 => ?_)
        · skip
          have hno : ¬ (of i = t ∧ (R = -1 ∨ nrr fl (f (r0 * 6)) (f (i * 6)))) := fun z => q22 z.1
          refine x_iinc (v := nI (i + 1)) (k0 := 0) (lv' := [(4, _), (3, _), (0, _), (1, _), (2, _)]) C d_Mo_behind_138 (by rfl) (nI_1 i) (by decide) (by rfl) ?_
          refine x_goto (tgt := 5) C d_Mo_behind_141 rfl ?_
          try rw [← hR]
          first | exact ih (i + 1) _ (by omega) (by omega) (hr.skip hno) | exact ih (i + 1) _ (by omega) (by omega) (hr.take hca (Or.inl q74) (by omega)) | exact ih (i + 1) _ (by omega) (by omega) (hr.take hca (Or.inr ⟨kb, hbs, hkb, nrr_p q81 (Int32.not_le.mp q116)⟩) (by omega)) | exact ih (i + 1) _ (by omega) (by omega) (hr.take hca (Or.inr ⟨kb, hbs, hkb, nrr_n q81 (Int32.not_le.mp q97)⟩) (by omega)) | exact ih (i + 1) _ (by omega) (by omega) (hr.stay hbs hkb (nrr_pn q81 q116) (by omega)) | exact ih (i + 1) _ (by omega) (by omega) (hr.stay hbs hkb (nrr_nn q81 q97) (by omega))
        · skip
          refine x_iload_n C d_Mo_behind_25 rfl rfl ?_
          refine x_iconst (v := -1) C d_Mo_behind_26 (by decide) ?_
          refine x_icmp_eq (tgt := 72) C d_Mo_behind_27 rfl (fun q27 => ?_) (fun q27 => ?_)
          · skip
            have hca : (of i = t ∧ (R = -1 ∨ nrr fl (f (r0 * 6)) (f (i * 6)))) := ⟨q22, Or.inl q27⟩
            refine x_iload_n C d_Mo_behind_72 rfl rfl ?_
            refine x_iconst (v := -1) C d_Mo_behind_73 (by decide) ?_
            refine x_icmp_eq (tgt := 119) C d_Mo_behind_74 rfl (fun q74 => ?_) (fun q74 => ?_)
            · skip
              refine x_iconst (v := 1) C d_Mo_behind_119 (by decide) ?_
              refine x_goto (tgt := 124) C d_Mo_behind_120 rfl ?_
              refine x_istore (lv' := [(5, _), (4, _), (3, _), (0, _), (1, _), (2, _)]) C d_Mo_behind_124 (by decide) (by rfl) ?_
              refine x_iload C d_Mo_behind_126 rfl ?_
              refine x_if_eq (tgt := 136) C d_Mo_behind_128 rfl (fun q128 => ?_) (fun q128 => ?_)
              · skip
                exact absurd q128 (by decide)
              · skip
                refine x_iload C d_Mo_behind_131 rfl ?_
                refine x_goto (tgt := 137) C d_Mo_behind_133 rfl ?_
                refine x_istore_n (lv' := [(3, _), (5, _), (4, _), (0, _), (1, _), (2, _)]) C d_Mo_behind_137 rfl (by decide) (by rfl) ?_
                refine x_iinc (v := nI (i + 1)) (k0 := 2) (lv' := [(4, _), (3, _), (5, _), (0, _), (1, _), (2, _)]) C d_Mo_behind_138 (by rfl) (nI_1 i) (by decide) (by rfl) ?_
                refine x_goto (tgt := 5) C d_Mo_behind_141 rfl ?_
                refine x_lv (lv' := [(4, _), (3, _), (0, _), (1, _), (2, _)]) [0, 1, 3, 4, 5] C (by rfl) ?_
                try rw [← hR]
                first | exact ih (i + 1) _ (by omega) (by omega) (hr.skip hno) | exact ih (i + 1) _ (by omega) (by omega) (hr.take hca (Or.inl q74) (by omega)) | exact ih (i + 1) _ (by omega) (by omega) (hr.take hca (Or.inr ⟨kb, hbs, hkb, nrr_p q81 (Int32.not_le.mp q116)⟩) (by omega)) | exact ih (i + 1) _ (by omega) (by omega) (hr.take hca (Or.inr ⟨kb, hbs, hkb, nrr_n q81 (Int32.not_le.mp q97)⟩) (by omega)) | exact ih (i + 1) _ (by omega) (by omega) (hr.stay hbs hkb (nrr_pn q81 q116) (by omega)) | exact ih (i + 1) _ (by omega) (by omega) (hr.stay hbs hkb (nrr_nn q81 q97) (by omega))
            · skip
              obtain ⟨kb, hkb, hbs, hcb, hmb⟩ := Or.resolve_left hr (fun z => q74 z.1)
              refine x_aload_n C d_Mo_behind_77 rfl rfl ?_
              refine x_get C k_Mo f_Mo_127 d_Mo_behind_78 fm g_falls ?_
              refine x_if_eq (tgt := 103) C d_Mo_behind_81 rfl (fun q81 => ?_) (fun q81 => ?_)
              · skip
                refine x_aload_n C d_Mo_behind_103 rfl rfl ?_
                refine x_iload C d_Mo_behind_104 rfl ?_
                refine x_iconst (v := 0) C d_Mo_behind_106 (by decide) ?_
                refine x_callV C l_Mo_151 v_Mo_cell d_Mo_behind_107 (m_Mo_cell (r := i) (c := 0) fm hlen g_cells fce (by omega)) fm rfl (by rfl) (by rfl) (by decide) (by decide) (Nat.le_of_ble_eq_true rfl) ?_
                rintro v9 h9 ⟨rfl, rfl⟩
                rw [Nat.add_zero]
                refine x_aload_n C d_Mo_behind_110 rfl rfl ?_
                refine x_iload_n C d_Mo_behind_111 rfl rfl ?_
                refine x_iconst (v := 0) C d_Mo_behind_112 (by decide) ?_
                rw [hbs]
                refine x_callV C l_Mo_151 v_Mo_cell d_Mo_behind_113 (m_Mo_cell (r := kb) (c := 0) fm hlen g_cells fce (by omega)) fm rfl (by rfl) (by rfl) (by decide) (by decide) (Nat.le_of_ble_eq_true rfl) ?_
                rintro v9 h9 ⟨rfl, rfl⟩
                rw [Nat.add_zero]
                refine x_icmp_ge (tgt := 123) C d_Mo_behind_116 rfl (fun q116 => ?_) (fun q116 => ?_)
                · skip
                  refine x_iconst (v := 0) C d_Mo_behind_123 (by decide) ?_
                  refine x_istore (lv' := [(5, _), (4, _), (3, _), (0, _), (1, _), (2, _)]) C d_Mo_behind_124 (by decide) (by rfl) ?_
                  refine x_iload C d_Mo_behind_126 rfl ?_
                  refine x_if_eq (tgt := 136) C d_Mo_behind_128 rfl (fun q128 => ?_) (fun q128 => ?_)
                  · skip
                    refine x_iload_n C d_Mo_behind_136 rfl rfl ?_
                    refine x_istore_n (lv' := [(3, _), (5, _), (4, _), (0, _), (1, _), (2, _)]) C d_Mo_behind_137 rfl (by decide) (by rfl) ?_
                    refine x_iinc (v := nI (i + 1)) (k0 := 2) (lv' := [(4, _), (3, _), (5, _), (0, _), (1, _), (2, _)]) C d_Mo_behind_138 (by rfl) (nI_1 i) (by decide) (by rfl) ?_
                    refine x_goto (tgt := 5) C d_Mo_behind_141 rfl ?_
                    refine x_lv (lv' := [(4, _), (3, _), (0, _), (1, _), (2, _)]) [0, 1, 3, 4, 5] C (by rfl) ?_
                    try rw [← hR]
                    first | exact ih (i + 1) _ (by omega) (by omega) (hr.skip hno) | exact ih (i + 1) _ (by omega) (by omega) (hr.take hca (Or.inl q74) (by omega)) | exact ih (i + 1) _ (by omega) (by omega) (hr.take hca (Or.inr ⟨kb, hbs, hkb, nrr_p q81 (Int32.not_le.mp q116)⟩) (by omega)) | exact ih (i + 1) _ (by omega) (by omega) (hr.take hca (Or.inr ⟨kb, hbs, hkb, nrr_n q81 (Int32.not_le.mp q97)⟩) (by omega)) | exact ih (i + 1) _ (by omega) (by omega) (hr.stay hbs hkb (nrr_pn q81 q116) (by omega)) | exact ih (i + 1) _ (by omega) (by omega) (hr.stay hbs hkb (nrr_nn q81 q97) (by omega))
                  · skip
                    exact absurd q128 (by decide)
                · skip
                  refine x_iconst (v := 1) C d_Mo_behind_119 (by decide) ?_
                  refine x_goto (tgt := 124) C d_Mo_behind_120 rfl ?_
                  refine x_istore (lv' := [(5, _), (4, _), (3, _), (0, _), (1, _), (2, _)]) C d_Mo_behind_124 (by decide) (by rfl) ?_
                  refine x_iload C d_Mo_behind_126 rfl ?_
                  refine x_if_eq (tgt := 136) C d_Mo_behind_128 rfl (fun q128 => ?_) (fun q128 => ?_)
                  · skip
                    exact absurd q128 (by decide)
                  · skip
                    refine x_iload C d_Mo_behind_131 rfl ?_
                    refine x_goto (tgt := 137) C d_Mo_behind_133 rfl ?_
                    refine x_istore_n (lv' := [(3, _), (5, _), (4, _), (0, _), (1, _), (2, _)]) C d_Mo_behind_137 rfl (by decide) (by rfl) ?_
                    refine x_iinc (v := nI (i + 1)) (k0 := 2) (lv' := [(4, _), (3, _), (5, _), (0, _), (1, _), (2, _)]) C d_Mo_behind_138 (by rfl) (nI_1 i) (by decide) (by rfl) ?_
                    refine x_goto (tgt := 5) C d_Mo_behind_141 rfl ?_
                    refine x_lv (lv' := [(4, _), (3, _), (0, _), (1, _), (2, _)]) [0, 1, 3, 4, 5] C (by rfl) ?_
                    try rw [← hR]
                    first | exact ih (i + 1) _ (by omega) (by omega) (hr.skip hno) | exact ih (i + 1) _ (by omega) (by omega) (hr.take hca (Or.inl q74) (by omega)) | exact ih (i + 1) _ (by omega) (by omega) (hr.take hca (Or.inr ⟨kb, hbs, hkb, nrr_p q81 (Int32.not_le.mp q116)⟩) (by omega)) | exact ih (i + 1) _ (by omega) (by omega) (hr.take hca (Or.inr ⟨kb, hbs, hkb, nrr_n q81 (Int32.not_le.mp q97)⟩) (by omega)) | exact ih (i + 1) _ (by omega) (by omega) (hr.stay hbs hkb (nrr_pn q81 q116) (by omega)) | exact ih (i + 1) _ (by omega) (by omega) (hr.stay hbs hkb (nrr_nn q81 q97) (by omega))
              · skip
                refine x_aload_n C d_Mo_behind_84 rfl rfl ?_
                refine x_iload C d_Mo_behind_85 rfl ?_
                refine x_iconst (v := 0) C d_Mo_behind_87 (by decide) ?_
                refine x_callV C l_Mo_151 v_Mo_cell d_Mo_behind_88 (m_Mo_cell (r := i) (c := 0) fm hlen g_cells fce (by omega)) fm rfl (by rfl) (by rfl) (by decide) (by decide) (Nat.le_of_ble_eq_true rfl) ?_
                rintro v9 h9 ⟨rfl, rfl⟩
                rw [Nat.add_zero]
                refine x_aload_n C d_Mo_behind_91 rfl rfl ?_
                refine x_iload_n C d_Mo_behind_92 rfl rfl ?_
                refine x_iconst (v := 0) C d_Mo_behind_93 (by decide) ?_
                rw [hbs]
                refine x_callV C l_Mo_151 v_Mo_cell d_Mo_behind_94 (m_Mo_cell (r := kb) (c := 0) fm hlen g_cells fce (by omega)) fm rfl (by rfl) (by rfl) (by decide) (by decide) (Nat.le_of_ble_eq_true rfl) ?_
                rintro v9 h9 ⟨rfl, rfl⟩
                rw [Nat.add_zero]
                refine x_icmp_le (tgt := 123) C d_Mo_behind_97 rfl (fun q97 => ?_) (fun q97 => ?_)
                · skip
                  refine x_iconst (v := 0) C d_Mo_behind_123 (by decide) ?_
                  refine x_istore (lv' := [(5, _), (4, _), (3, _), (0, _), (1, _), (2, _)]) C d_Mo_behind_124 (by decide) (by rfl) ?_
                  refine x_iload C d_Mo_behind_126 rfl ?_
                  refine x_if_eq (tgt := 136) C d_Mo_behind_128 rfl (fun q128 => ?_) (fun q128 => ?_)
                  · skip
                    refine x_iload_n C d_Mo_behind_136 rfl rfl ?_
                    refine x_istore_n (lv' := [(3, _), (5, _), (4, _), (0, _), (1, _), (2, _)]) C d_Mo_behind_137 rfl (by decide) (by rfl) ?_
                    refine x_iinc (v := nI (i + 1)) (k0 := 2) (lv' := [(4, _), (3, _), (5, _), (0, _), (1, _), (2, _)]) C d_Mo_behind_138 (by rfl) (nI_1 i) (by decide) (by rfl) ?_
                    refine x_goto (tgt := 5) C d_Mo_behind_141 rfl ?_
                    refine x_lv (lv' := [(4, _), (3, _), (0, _), (1, _), (2, _)]) [0, 1, 3, 4, 5] C (by rfl) ?_
                    try rw [← hR]
                    first | exact ih (i + 1) _ (by omega) (by omega) (hr.skip hno) | exact ih (i + 1) _ (by omega) (by omega) (hr.take hca (Or.inl q74) (by omega)) | exact ih (i + 1) _ (by omega) (by omega) (hr.take hca (Or.inr ⟨kb, hbs, hkb, nrr_p q81 (Int32.not_le.mp q116)⟩) (by omega)) | exact ih (i + 1) _ (by omega) (by omega) (hr.take hca (Or.inr ⟨kb, hbs, hkb, nrr_n q81 (Int32.not_le.mp q97)⟩) (by omega)) | exact ih (i + 1) _ (by omega) (by omega) (hr.stay hbs hkb (nrr_pn q81 q116) (by omega)) | exact ih (i + 1) _ (by omega) (by omega) (hr.stay hbs hkb (nrr_nn q81 q97) (by omega))
                  · skip
                    exact absurd q128 (by decide)
                · skip
                  refine x_goto (tgt := 119) C d_Mo_behind_100 rfl ?_
                  refine x_iconst (v := 1) C d_Mo_behind_119 (by decide) ?_
                  refine x_goto (tgt := 124) C d_Mo_behind_120 rfl ?_
                  refine x_istore (lv' := [(5, _), (4, _), (3, _), (0, _), (1, _), (2, _)]) C d_Mo_behind_124 (by decide) (by rfl) ?_
                  refine x_iload C d_Mo_behind_126 rfl ?_
                  refine x_if_eq (tgt := 136) C d_Mo_behind_128 rfl (fun q128 => ?_) (fun q128 => ?_)
                  · skip
                    exact absurd q128 (by decide)
                  · skip
                    refine x_iload C d_Mo_behind_131 rfl ?_
                    refine x_goto (tgt := 137) C d_Mo_behind_133 rfl ?_
                    refine x_istore_n (lv' := [(3, _), (5, _), (4, _), (0, _), (1, _), (2, _)]) C d_Mo_behind_137 rfl (by decide) (by rfl) ?_
                    refine x_iinc (v := nI (i + 1)) (k0 := 2) (lv' := [(4, _), (3, _), (5, _), (0, _), (1, _), (2, _)]) C d_Mo_behind_138 (by rfl) (nI_1 i) (by decide) (by rfl) ?_
                    refine x_goto (tgt := 5) C d_Mo_behind_141 rfl ?_
                    refine x_lv (lv' := [(4, _), (3, _), (0, _), (1, _), (2, _)]) [0, 1, 3, 4, 5] C (by rfl) ?_
                    try rw [← hR]
                    first | exact ih (i + 1) _ (by omega) (by omega) (hr.skip hno) | exact ih (i + 1) _ (by omega) (by omega) (hr.take hca (Or.inl q74) (by omega)) | exact ih (i + 1) _ (by omega) (by omega) (hr.take hca (Or.inr ⟨kb, hbs, hkb, nrr_p q81 (Int32.not_le.mp q116)⟩) (by omega)) | exact ih (i + 1) _ (by omega) (by omega) (hr.take hca (Or.inr ⟨kb, hbs, hkb, nrr_n q81 (Int32.not_le.mp q97)⟩) (by omega)) | exact ih (i + 1) _ (by omega) (by omega) (hr.stay hbs hkb (nrr_pn q81 q116) (by omega)) | exact ih (i + 1) _ (by omega) (by omega) (hr.stay hbs hkb (nrr_nn q81 q97) (by omega))
          · skip
            obtain ⟨hR, hr4⟩ := hr0.resolve_left q27
            refine x_aload_n C d_Mo_behind_30 rfl rfl ?_
            refine x_get C k_Mo f_Mo_127 d_Mo_behind_31 fm g_falls ?_
            refine x_if_eq (tgt := 56) C d_Mo_behind_34 rfl (fun q34 => ?_) (fun q34 => ?_)
            · skip
              refine x_aload_n C d_Mo_behind_56 rfl rfl ?_
              refine x_iload C d_Mo_behind_57 rfl ?_
              refine x_iconst (v := 0) C d_Mo_behind_59 (by decide) ?_
              refine x_callV C l_Mo_151 v_Mo_cell d_Mo_behind_60 (m_Mo_cell (r := i) (c := 0) fm hlen g_cells fce (by omega)) fm rfl (by rfl) (by rfl) (by decide) (by decide) (Nat.le_of_ble_eq_true rfl) ?_
              rintro v9 h9 ⟨rfl, rfl⟩
              rw [Nat.add_zero]
              refine x_aload_n C d_Mo_behind_63 rfl rfl ?_
              refine x_iload_n C d_Mo_behind_64 rfl rfl ?_
              refine x_iconst (v := 0) C d_Mo_behind_65 (by decide) ?_
              rw [hR]
              refine x_callV C l_Mo_151 v_Mo_cell d_Mo_behind_66 (m_Mo_cell (r := r0) (c := 0) fm hlen g_cells fce (by omega)) fm rfl (by rfl) (by rfl) (by decide) (by decide) (Nat.le_of_ble_eq_true rfl) ?_
              rintro v9 h9 ⟨rfl, rfl⟩
              rw [Nat.add_zero]
              refine x_icmp_le (tgt := 138) C d_Mo_behind_69 rfl (fun q69 => ?_) (fun q69 => ?_)
              · skip
                have hno : ¬ (of i = t ∧ (R = -1 ∨ nrr fl (f (r0 * 6)) (f (i * 6)))) := fun z => by rcases z.2 with y | y; exact q27 y; unfold nrr at y; rw [if_pos q34] at y; exact absurd q69 (Int32.not_le.mpr y)
                refine x_iinc (v := nI (i + 1)) (k0 := 0) (lv' := [(4, _), (3, _), (0, _), (1, _), (2, _)]) C d_Mo_behind_138 (by rfl) (nI_1 i) (by decide) (by rfl) ?_
                refine x_goto (tgt := 5) C d_Mo_behind_141 rfl ?_
                try rw [← hR]
                first | exact ih (i + 1) _ (by omega) (by omega) (hr.skip hno) | exact ih (i + 1) _ (by omega) (by omega) (hr.take hca (Or.inl q74) (by omega)) | exact ih (i + 1) _ (by omega) (by omega) (hr.take hca (Or.inr ⟨kb, hbs, hkb, nrr_p q81 (Int32.not_le.mp q116)⟩) (by omega)) | exact ih (i + 1) _ (by omega) (by omega) (hr.take hca (Or.inr ⟨kb, hbs, hkb, nrr_n q81 (Int32.not_le.mp q97)⟩) (by omega)) | exact ih (i + 1) _ (by omega) (by omega) (hr.stay hbs hkb (nrr_pn q81 q116) (by omega)) | exact ih (i + 1) _ (by omega) (by omega) (hr.stay hbs hkb (nrr_nn q81 q97) (by omega))
              · skip
                have hca : (of i = t ∧ (R = -1 ∨ nrr fl (f (r0 * 6)) (f (i * 6)))) := ⟨q22, Or.inr (by unfold nrr; rw [if_pos q34]; exact Int32.not_le.mp q69)⟩
                refine x_iload_n C d_Mo_behind_72 rfl rfl ?_
                refine x_iconst (v := -1) C d_Mo_behind_73 (by decide) ?_
                refine x_icmp_eq (tgt := 119) C d_Mo_behind_74 rfl (fun q74 => ?_) (fun q74 => ?_)
                · skip
                  refine x_iconst (v := 1) C d_Mo_behind_119 (by decide) ?_
                  refine x_goto (tgt := 124) C d_Mo_behind_120 rfl ?_
                  refine x_istore (lv' := [(5, _), (4, _), (3, _), (0, _), (1, _), (2, _)]) C d_Mo_behind_124 (by decide) (by rfl) ?_
                  refine x_iload C d_Mo_behind_126 rfl ?_
                  refine x_if_eq (tgt := 136) C d_Mo_behind_128 rfl (fun q128 => ?_) (fun q128 => ?_)
                  · skip
                    exact absurd q128 (by decide)
                  · skip
                    refine x_iload C d_Mo_behind_131 rfl ?_
                    refine x_goto (tgt := 137) C d_Mo_behind_133 rfl ?_
                    refine x_istore_n (lv' := [(3, _), (5, _), (4, _), (0, _), (1, _), (2, _)]) C d_Mo_behind_137 rfl (by decide) (by rfl) ?_
                    refine x_iinc (v := nI (i + 1)) (k0 := 2) (lv' := [(4, _), (3, _), (5, _), (0, _), (1, _), (2, _)]) C d_Mo_behind_138 (by rfl) (nI_1 i) (by decide) (by rfl) ?_
                    refine x_goto (tgt := 5) C d_Mo_behind_141 rfl ?_
                    refine x_lv (lv' := [(4, _), (3, _), (0, _), (1, _), (2, _)]) [0, 1, 3, 4, 5] C (by rfl) ?_
                    try rw [← hR]
                    first | exact ih (i + 1) _ (by omega) (by omega) (hr.skip hno) | exact ih (i + 1) _ (by omega) (by omega) (hr.take hca (Or.inl q74) (by omega)) | exact ih (i + 1) _ (by omega) (by omega) (hr.take hca (Or.inr ⟨kb, hbs, hkb, nrr_p q81 (Int32.not_le.mp q116)⟩) (by omega)) | exact ih (i + 1) _ (by omega) (by omega) (hr.take hca (Or.inr ⟨kb, hbs, hkb, nrr_n q81 (Int32.not_le.mp q97)⟩) (by omega)) | exact ih (i + 1) _ (by omega) (by omega) (hr.stay hbs hkb (nrr_pn q81 q116) (by omega)) | exact ih (i + 1) _ (by omega) (by omega) (hr.stay hbs hkb (nrr_nn q81 q97) (by omega))
                · skip
                  obtain ⟨kb, hkb, hbs, hcb, hmb⟩ := Or.resolve_left hr (fun z => q74 z.1)
                  refine x_aload_n C d_Mo_behind_77 rfl rfl ?_
                  refine x_get C k_Mo f_Mo_127 d_Mo_behind_78 fm g_falls ?_
                  refine x_if_eq (tgt := 103) C d_Mo_behind_81 rfl (fun q81 => ?_) (fun q81 => ?_)
                  · skip
                    refine x_aload_n C d_Mo_behind_103 rfl rfl ?_
                    refine x_iload C d_Mo_behind_104 rfl ?_
                    refine x_iconst (v := 0) C d_Mo_behind_106 (by decide) ?_
                    refine x_callV C l_Mo_151 v_Mo_cell d_Mo_behind_107 (m_Mo_cell (r := i) (c := 0) fm hlen g_cells fce (by omega)) fm rfl (by rfl) (by rfl) (by decide) (by decide) (Nat.le_of_ble_eq_true rfl) ?_
                    rintro v9 h9 ⟨rfl, rfl⟩
                    rw [Nat.add_zero]
                    refine x_aload_n C d_Mo_behind_110 rfl rfl ?_
                    refine x_iload_n C d_Mo_behind_111 rfl rfl ?_
                    refine x_iconst (v := 0) C d_Mo_behind_112 (by decide) ?_
                    rw [hbs]
                    refine x_callV C l_Mo_151 v_Mo_cell d_Mo_behind_113 (m_Mo_cell (r := kb) (c := 0) fm hlen g_cells fce (by omega)) fm rfl (by rfl) (by rfl) (by decide) (by decide) (Nat.le_of_ble_eq_true rfl) ?_
                    rintro v9 h9 ⟨rfl, rfl⟩
                    rw [Nat.add_zero]
                    refine x_icmp_ge (tgt := 123) C d_Mo_behind_116 rfl (fun q116 => ?_) (fun q116 => ?_)
                    · skip
                      refine x_iconst (v := 0) C d_Mo_behind_123 (by decide) ?_
                      refine x_istore (lv' := [(5, _), (4, _), (3, _), (0, _), (1, _), (2, _)]) C d_Mo_behind_124 (by decide) (by rfl) ?_
                      refine x_iload C d_Mo_behind_126 rfl ?_
                      refine x_if_eq (tgt := 136) C d_Mo_behind_128 rfl (fun q128 => ?_) (fun q128 => ?_)
                      · skip
                        refine x_iload_n C d_Mo_behind_136 rfl rfl ?_
                        refine x_istore_n (lv' := [(3, _), (5, _), (4, _), (0, _), (1, _), (2, _)]) C d_Mo_behind_137 rfl (by decide) (by rfl) ?_
                        refine x_iinc (v := nI (i + 1)) (k0 := 2) (lv' := [(4, _), (3, _), (5, _), (0, _), (1, _), (2, _)]) C d_Mo_behind_138 (by rfl) (nI_1 i) (by decide) (by rfl) ?_
                        refine x_goto (tgt := 5) C d_Mo_behind_141 rfl ?_
                        refine x_lv (lv' := [(4, _), (3, _), (0, _), (1, _), (2, _)]) [0, 1, 3, 4, 5] C (by rfl) ?_
                        try rw [← hR]
                        first | exact ih (i + 1) _ (by omega) (by omega) (hr.skip hno) | exact ih (i + 1) _ (by omega) (by omega) (hr.take hca (Or.inl q74) (by omega)) | exact ih (i + 1) _ (by omega) (by omega) (hr.take hca (Or.inr ⟨kb, hbs, hkb, nrr_p q81 (Int32.not_le.mp q116)⟩) (by omega)) | exact ih (i + 1) _ (by omega) (by omega) (hr.take hca (Or.inr ⟨kb, hbs, hkb, nrr_n q81 (Int32.not_le.mp q97)⟩) (by omega)) | exact ih (i + 1) _ (by omega) (by omega) (hr.stay hbs hkb (nrr_pn q81 q116) (by omega)) | exact ih (i + 1) _ (by omega) (by omega) (hr.stay hbs hkb (nrr_nn q81 q97) (by omega))
                      · skip
                        exact absurd q128 (by decide)
                    · skip
                      refine x_iconst (v := 1) C d_Mo_behind_119 (by decide) ?_
                      refine x_goto (tgt := 124) C d_Mo_behind_120 rfl ?_
                      refine x_istore (lv' := [(5, _), (4, _), (3, _), (0, _), (1, _), (2, _)]) C d_Mo_behind_124 (by decide) (by rfl) ?_
                      refine x_iload C d_Mo_behind_126 rfl ?_
                      refine x_if_eq (tgt := 136) C d_Mo_behind_128 rfl (fun q128 => ?_) (fun q128 => ?_)
                      · skip
                        exact absurd q128 (by decide)
                      · skip
                        refine x_iload C d_Mo_behind_131 rfl ?_
                        refine x_goto (tgt := 137) C d_Mo_behind_133 rfl ?_
                        refine x_istore_n (lv' := [(3, _), (5, _), (4, _), (0, _), (1, _), (2, _)]) C d_Mo_behind_137 rfl (by decide) (by rfl) ?_
                        refine x_iinc (v := nI (i + 1)) (k0 := 2) (lv' := [(4, _), (3, _), (5, _), (0, _), (1, _), (2, _)]) C d_Mo_behind_138 (by rfl) (nI_1 i) (by decide) (by rfl) ?_
                        refine x_goto (tgt := 5) C d_Mo_behind_141 rfl ?_
                        refine x_lv (lv' := [(4, _), (3, _), (0, _), (1, _), (2, _)]) [0, 1, 3, 4, 5] C (by rfl) ?_
                        try rw [← hR]
                        first | exact ih (i + 1) _ (by omega) (by omega) (hr.skip hno) | exact ih (i + 1) _ (by omega) (by omega) (hr.take hca (Or.inl q74) (by omega)) | exact ih (i + 1) _ (by omega) (by omega) (hr.take hca (Or.inr ⟨kb, hbs, hkb, nrr_p q81 (Int32.not_le.mp q116)⟩) (by omega)) | exact ih (i + 1) _ (by omega) (by omega) (hr.take hca (Or.inr ⟨kb, hbs, hkb, nrr_n q81 (Int32.not_le.mp q97)⟩) (by omega)) | exact ih (i + 1) _ (by omega) (by omega) (hr.stay hbs hkb (nrr_pn q81 q116) (by omega)) | exact ih (i + 1) _ (by omega) (by omega) (hr.stay hbs hkb (nrr_nn q81 q97) (by omega))
                  · skip
                    refine x_aload_n C d_Mo_behind_84 rfl rfl ?_
                    refine x_iload C d_Mo_behind_85 rfl ?_
                    refine x_iconst (v := 0) C d_Mo_behind_87 (by decide) ?_
                    refine x_callV C l_Mo_151 v_Mo_cell d_Mo_behind_88 (m_Mo_cell (r := i) (c := 0) fm hlen g_cells fce (by omega)) fm rfl (by rfl) (by rfl) (by decide) (by decide) (Nat.le_of_ble_eq_true rfl) ?_
                    rintro v9 h9 ⟨rfl, rfl⟩
                    rw [Nat.add_zero]
                    refine x_aload_n C d_Mo_behind_91 rfl rfl ?_
                    refine x_iload_n C d_Mo_behind_92 rfl rfl ?_
                    refine x_iconst (v := 0) C d_Mo_behind_93 (by decide) ?_
                    rw [hbs]
                    refine x_callV C l_Mo_151 v_Mo_cell d_Mo_behind_94 (m_Mo_cell (r := kb) (c := 0) fm hlen g_cells fce (by omega)) fm rfl (by rfl) (by rfl) (by decide) (by decide) (Nat.le_of_ble_eq_true rfl) ?_
                    rintro v9 h9 ⟨rfl, rfl⟩
                    rw [Nat.add_zero]
                    refine x_icmp_le (tgt := 123) C d_Mo_behind_97 rfl (fun q97 => ?_) (fun q97 => ?_)
                    · skip
                      refine x_iconst (v := 0) C d_Mo_behind_123 (by decide) ?_
                      refine x_istore (lv' := [(5, _), (4, _), (3, _), (0, _), (1, _), (2, _)]) C d_Mo_behind_124 (by decide) (by rfl) ?_
                      refine x_iload C d_Mo_behind_126 rfl ?_
                      refine x_if_eq (tgt := 136) C d_Mo_behind_128 rfl (fun q128 => ?_) (fun q128 => ?_)
                      · skip
                        refine x_iload_n C d_Mo_behind_136 rfl rfl ?_
                        refine x_istore_n (lv' := [(3, _), (5, _), (4, _), (0, _), (1, _), (2, _)]) C d_Mo_behind_137 rfl (by decide) (by rfl) ?_
                        refine x_iinc (v := nI (i + 1)) (k0 := 2) (lv' := [(4, _), (3, _), (5, _), (0, _), (1, _), (2, _)]) C d_Mo_behind_138 (by rfl) (nI_1 i) (by decide) (by rfl) ?_
                        refine x_goto (tgt := 5) C d_Mo_behind_141 rfl ?_
                        refine x_lv (lv' := [(4, _), (3, _), (0, _), (1, _), (2, _)]) [0, 1, 3, 4, 5] C (by rfl) ?_
                        try rw [← hR]
                        first | exact ih (i + 1) _ (by omega) (by omega) (hr.skip hno) | exact ih (i + 1) _ (by omega) (by omega) (hr.take hca (Or.inl q74) (by omega)) | exact ih (i + 1) _ (by omega) (by omega) (hr.take hca (Or.inr ⟨kb, hbs, hkb, nrr_p q81 (Int32.not_le.mp q116)⟩) (by omega)) | exact ih (i + 1) _ (by omega) (by omega) (hr.take hca (Or.inr ⟨kb, hbs, hkb, nrr_n q81 (Int32.not_le.mp q97)⟩) (by omega)) | exact ih (i + 1) _ (by omega) (by omega) (hr.stay hbs hkb (nrr_pn q81 q116) (by omega)) | exact ih (i + 1) _ (by omega) (by omega) (hr.stay hbs hkb (nrr_nn q81 q97) (by omega))
                      · skip
                        exact absurd q128 (by decide)
                    · skip
                      refine x_goto (tgt := 119) C d_Mo_behind_100 rfl ?_
                      refine x_iconst (v := 1) C d_Mo_behind_119 (by decide) ?_
                      refine x_goto (tgt := 124) C d_Mo_behind_120 rfl ?_
                      refine x_istore (lv' := [(5, _), (4, _), (3, _), (0, _), (1, _), (2, _)]) C d_Mo_behind_124 (by decide) (by rfl) ?_
                      refine x_iload C d_Mo_behind_126 rfl ?_
                      refine x_if_eq (tgt := 136) C d_Mo_behind_128 rfl (fun q128 => ?_) (fun q128 => ?_)
                      · skip
                        exact absurd q128 (by decide)
                      · skip
                        refine x_iload C d_Mo_behind_131 rfl ?_
                        refine x_goto (tgt := 137) C d_Mo_behind_133 rfl ?_
                        refine x_istore_n (lv' := [(3, _), (5, _), (4, _), (0, _), (1, _), (2, _)]) C d_Mo_behind_137 rfl (by decide) (by rfl) ?_
                        refine x_iinc (v := nI (i + 1)) (k0 := 2) (lv' := [(4, _), (3, _), (5, _), (0, _), (1, _), (2, _)]) C d_Mo_behind_138 (by rfl) (nI_1 i) (by decide) (by rfl) ?_
                        refine x_goto (tgt := 5) C d_Mo_behind_141 rfl ?_
                        refine x_lv (lv' := [(4, _), (3, _), (0, _), (1, _), (2, _)]) [0, 1, 3, 4, 5] C (by rfl) ?_
                        try rw [← hR]
                        first | exact ih (i + 1) _ (by omega) (by omega) (hr.skip hno) | exact ih (i + 1) _ (by omega) (by omega) (hr.take hca (Or.inl q74) (by omega)) | exact ih (i + 1) _ (by omega) (by omega) (hr.take hca (Or.inr ⟨kb, hbs, hkb, nrr_p q81 (Int32.not_le.mp q116)⟩) (by omega)) | exact ih (i + 1) _ (by omega) (by omega) (hr.take hca (Or.inr ⟨kb, hbs, hkb, nrr_n q81 (Int32.not_le.mp q97)⟩) (by omega)) | exact ih (i + 1) _ (by omega) (by omega) (hr.stay hbs hkb (nrr_pn q81 q116) (by omega)) | exact ih (i + 1) _ (by omega) (by omega) (hr.stay hbs hkb (nrr_nn q81 q97) (by omega))
            · skip
              refine x_aload_n C d_Mo_behind_37 rfl rfl ?_
              refine x_iload C d_Mo_behind_38 rfl ?_
              refine x_iconst (v := 0) C d_Mo_behind_40 (by decide) ?_
              refine x_callV C l_Mo_151 v_Mo_cell d_Mo_behind_41 (m_Mo_cell (r := i) (c := 0) fm hlen g_cells fce (by omega)) fm rfl (by rfl) (by rfl) (by decide) (by decide) (Nat.le_of_ble_eq_true rfl) ?_
              rintro v9 h9 ⟨rfl, rfl⟩
              rw [Nat.add_zero]
              refine x_aload_n C d_Mo_behind_44 rfl rfl ?_
              refine x_iload_n C d_Mo_behind_45 rfl rfl ?_
              refine x_iconst (v := 0) C d_Mo_behind_46 (by decide) ?_
              rw [hR]
              refine x_callV C l_Mo_151 v_Mo_cell d_Mo_behind_47 (m_Mo_cell (r := r0) (c := 0) fm hlen g_cells fce (by omega)) fm rfl (by rfl) (by rfl) (by decide) (by decide) (Nat.le_of_ble_eq_true rfl) ?_
              rintro v9 h9 ⟨rfl, rfl⟩
              rw [Nat.add_zero]
              refine x_icmp_ge (tgt := 138) C d_Mo_behind_50 rfl (fun q50 => ?_) (fun q50 => ?_)
              · skip
                have hno : ¬ (of i = t ∧ (R = -1 ∨ nrr fl (f (r0 * 6)) (f (i * 6)))) := fun z => by rcases z.2 with y | y; exact q27 y; unfold nrr at y; rw [if_neg q34] at y; exact absurd q50 (Int32.not_le.mpr y)
                refine x_iinc (v := nI (i + 1)) (k0 := 0) (lv' := [(4, _), (3, _), (0, _), (1, _), (2, _)]) C d_Mo_behind_138 (by rfl) (nI_1 i) (by decide) (by rfl) ?_
                refine x_goto (tgt := 5) C d_Mo_behind_141 rfl ?_
                try rw [← hR]
                first | exact ih (i + 1) _ (by omega) (by omega) (hr.skip hno) | exact ih (i + 1) _ (by omega) (by omega) (hr.take hca (Or.inl q74) (by omega)) | exact ih (i + 1) _ (by omega) (by omega) (hr.take hca (Or.inr ⟨kb, hbs, hkb, nrr_p q81 (Int32.not_le.mp q116)⟩) (by omega)) | exact ih (i + 1) _ (by omega) (by omega) (hr.take hca (Or.inr ⟨kb, hbs, hkb, nrr_n q81 (Int32.not_le.mp q97)⟩) (by omega)) | exact ih (i + 1) _ (by omega) (by omega) (hr.stay hbs hkb (nrr_pn q81 q116) (by omega)) | exact ih (i + 1) _ (by omega) (by omega) (hr.stay hbs hkb (nrr_nn q81 q97) (by omega))
              · skip
                have hca : (of i = t ∧ (R = -1 ∨ nrr fl (f (r0 * 6)) (f (i * 6)))) := ⟨q22, Or.inr (by unfold nrr; rw [if_neg q34]; exact Int32.not_le.mp q50)⟩
                refine x_goto (tgt := 72) C d_Mo_behind_53 rfl ?_
                refine x_iload_n C d_Mo_behind_72 rfl rfl ?_
                refine x_iconst (v := -1) C d_Mo_behind_73 (by decide) ?_
                refine x_icmp_eq (tgt := 119) C d_Mo_behind_74 rfl (fun q74 => ?_) (fun q74 => ?_)
                · skip
                  refine x_iconst (v := 1) C d_Mo_behind_119 (by decide) ?_
                  refine x_goto (tgt := 124) C d_Mo_behind_120 rfl ?_
                  refine x_istore (lv' := [(5, _), (4, _), (3, _), (0, _), (1, _), (2, _)]) C d_Mo_behind_124 (by decide) (by rfl) ?_
                  refine x_iload C d_Mo_behind_126 rfl ?_
                  refine x_if_eq (tgt := 136) C d_Mo_behind_128 rfl (fun q128 => ?_) (fun q128 => ?_)
                  · skip
                    exact absurd q128 (by decide)
                  · skip
                    refine x_iload C d_Mo_behind_131 rfl ?_
                    refine x_goto (tgt := 137) C d_Mo_behind_133 rfl ?_
                    refine x_istore_n (lv' := [(3, _), (5, _), (4, _), (0, _), (1, _), (2, _)]) C d_Mo_behind_137 rfl (by decide) (by rfl) ?_
                    refine x_iinc (v := nI (i + 1)) (k0 := 2) (lv' := [(4, _), (3, _), (5, _), (0, _), (1, _), (2, _)]) C d_Mo_behind_138 (by rfl) (nI_1 i) (by decide) (by rfl) ?_
                    refine x_goto (tgt := 5) C d_Mo_behind_141 rfl ?_
                    refine x_lv (lv' := [(4, _), (3, _), (0, _), (1, _), (2, _)]) [0, 1, 3, 4, 5] C (by rfl) ?_
                    try rw [← hR]
                    first | exact ih (i + 1) _ (by omega) (by omega) (hr.skip hno) | exact ih (i + 1) _ (by omega) (by omega) (hr.take hca (Or.inl q74) (by omega)) | exact ih (i + 1) _ (by omega) (by omega) (hr.take hca (Or.inr ⟨kb, hbs, hkb, nrr_p q81 (Int32.not_le.mp q116)⟩) (by omega)) | exact ih (i + 1) _ (by omega) (by omega) (hr.take hca (Or.inr ⟨kb, hbs, hkb, nrr_n q81 (Int32.not_le.mp q97)⟩) (by omega)) | exact ih (i + 1) _ (by omega) (by omega) (hr.stay hbs hkb (nrr_pn q81 q116) (by omega)) | exact ih (i + 1) _ (by omega) (by omega) (hr.stay hbs hkb (nrr_nn q81 q97) (by omega))
                · skip
                  obtain ⟨kb, hkb, hbs, hcb, hmb⟩ := Or.resolve_left hr (fun z => q74 z.1)
                  refine x_aload_n C d_Mo_behind_77 rfl rfl ?_
                  refine x_get C k_Mo f_Mo_127 d_Mo_behind_78 fm g_falls ?_
                  refine x_if_eq (tgt := 103) C d_Mo_behind_81 rfl (fun q81 => ?_) (fun q81 => ?_)
                  · skip
                    refine x_aload_n C d_Mo_behind_103 rfl rfl ?_
                    refine x_iload C d_Mo_behind_104 rfl ?_
                    refine x_iconst (v := 0) C d_Mo_behind_106 (by decide) ?_
                    refine x_callV C l_Mo_151 v_Mo_cell d_Mo_behind_107 (m_Mo_cell (r := i) (c := 0) fm hlen g_cells fce (by omega)) fm rfl (by rfl) (by rfl) (by decide) (by decide) (Nat.le_of_ble_eq_true rfl) ?_
                    rintro v9 h9 ⟨rfl, rfl⟩
                    rw [Nat.add_zero]
                    refine x_aload_n C d_Mo_behind_110 rfl rfl ?_
                    refine x_iload_n C d_Mo_behind_111 rfl rfl ?_
                    refine x_iconst (v := 0) C d_Mo_behind_112 (by decide) ?_
                    rw [hbs]
                    refine x_callV C l_Mo_151 v_Mo_cell d_Mo_behind_113 (m_Mo_cell (r := kb) (c := 0) fm hlen g_cells fce (by omega)) fm rfl (by rfl) (by rfl) (by decide) (by decide) (Nat.le_of_ble_eq_true rfl) ?_
                    rintro v9 h9 ⟨rfl, rfl⟩
                    rw [Nat.add_zero]
                    refine x_icmp_ge (tgt := 123) C d_Mo_behind_116 rfl (fun q116 => ?_) (fun q116 => ?_)
                    · skip
                      refine x_iconst (v := 0) C d_Mo_behind_123 (by decide) ?_
                      refine x_istore (lv' := [(5, _), (4, _), (3, _), (0, _), (1, _), (2, _)]) C d_Mo_behind_124 (by decide) (by rfl) ?_
                      refine x_iload C d_Mo_behind_126 rfl ?_
                      refine x_if_eq (tgt := 136) C d_Mo_behind_128 rfl (fun q128 => ?_) (fun q128 => ?_)
                      · skip
                        refine x_iload_n C d_Mo_behind_136 rfl rfl ?_
                        refine x_istore_n (lv' := [(3, _), (5, _), (4, _), (0, _), (1, _), (2, _)]) C d_Mo_behind_137 rfl (by decide) (by rfl) ?_
                        refine x_iinc (v := nI (i + 1)) (k0 := 2) (lv' := [(4, _), (3, _), (5, _), (0, _), (1, _), (2, _)]) C d_Mo_behind_138 (by rfl) (nI_1 i) (by decide) (by rfl) ?_
                        refine x_goto (tgt := 5) C d_Mo_behind_141 rfl ?_
                        refine x_lv (lv' := [(4, _), (3, _), (0, _), (1, _), (2, _)]) [0, 1, 3, 4, 5] C (by rfl) ?_
                        try rw [← hR]
                        first | exact ih (i + 1) _ (by omega) (by omega) (hr.skip hno) | exact ih (i + 1) _ (by omega) (by omega) (hr.take hca (Or.inl q74) (by omega)) | exact ih (i + 1) _ (by omega) (by omega) (hr.take hca (Or.inr ⟨kb, hbs, hkb, nrr_p q81 (Int32.not_le.mp q116)⟩) (by omega)) | exact ih (i + 1) _ (by omega) (by omega) (hr.take hca (Or.inr ⟨kb, hbs, hkb, nrr_n q81 (Int32.not_le.mp q97)⟩) (by omega)) | exact ih (i + 1) _ (by omega) (by omega) (hr.stay hbs hkb (nrr_pn q81 q116) (by omega)) | exact ih (i + 1) _ (by omega) (by omega) (hr.stay hbs hkb (nrr_nn q81 q97) (by omega))
                      · skip
                        exact absurd q128 (by decide)
                    · skip
                      refine x_iconst (v := 1) C d_Mo_behind_119 (by decide) ?_
                      refine x_goto (tgt := 124) C d_Mo_behind_120 rfl ?_
                      refine x_istore (lv' := [(5, _), (4, _), (3, _), (0, _), (1, _), (2, _)]) C d_Mo_behind_124 (by decide) (by rfl) ?_
                      refine x_iload C d_Mo_behind_126 rfl ?_
                      refine x_if_eq (tgt := 136) C d_Mo_behind_128 rfl (fun q128 => ?_) (fun q128 => ?_)
                      · skip
                        exact absurd q128 (by decide)
                      · skip
                        refine x_iload C d_Mo_behind_131 rfl ?_
                        refine x_goto (tgt := 137) C d_Mo_behind_133 rfl ?_
                        refine x_istore_n (lv' := [(3, _), (5, _), (4, _), (0, _), (1, _), (2, _)]) C d_Mo_behind_137 rfl (by decide) (by rfl) ?_
                        refine x_iinc (v := nI (i + 1)) (k0 := 2) (lv' := [(4, _), (3, _), (5, _), (0, _), (1, _), (2, _)]) C d_Mo_behind_138 (by rfl) (nI_1 i) (by decide) (by rfl) ?_
                        refine x_goto (tgt := 5) C d_Mo_behind_141 rfl ?_
                        refine x_lv (lv' := [(4, _), (3, _), (0, _), (1, _), (2, _)]) [0, 1, 3, 4, 5] C (by rfl) ?_
                        try rw [← hR]
                        first | exact ih (i + 1) _ (by omega) (by omega) (hr.skip hno) | exact ih (i + 1) _ (by omega) (by omega) (hr.take hca (Or.inl q74) (by omega)) | exact ih (i + 1) _ (by omega) (by omega) (hr.take hca (Or.inr ⟨kb, hbs, hkb, nrr_p q81 (Int32.not_le.mp q116)⟩) (by omega)) | exact ih (i + 1) _ (by omega) (by omega) (hr.take hca (Or.inr ⟨kb, hbs, hkb, nrr_n q81 (Int32.not_le.mp q97)⟩) (by omega)) | exact ih (i + 1) _ (by omega) (by omega) (hr.stay hbs hkb (nrr_pn q81 q116) (by omega)) | exact ih (i + 1) _ (by omega) (by omega) (hr.stay hbs hkb (nrr_nn q81 q97) (by omega))
                  · skip
                    refine x_aload_n C d_Mo_behind_84 rfl rfl ?_
                    refine x_iload C d_Mo_behind_85 rfl ?_
                    refine x_iconst (v := 0) C d_Mo_behind_87 (by decide) ?_
                    refine x_callV C l_Mo_151 v_Mo_cell d_Mo_behind_88 (m_Mo_cell (r := i) (c := 0) fm hlen g_cells fce (by omega)) fm rfl (by rfl) (by rfl) (by decide) (by decide) (Nat.le_of_ble_eq_true rfl) ?_
                    rintro v9 h9 ⟨rfl, rfl⟩
                    rw [Nat.add_zero]
                    refine x_aload_n C d_Mo_behind_91 rfl rfl ?_
                    refine x_iload_n C d_Mo_behind_92 rfl rfl ?_
                    refine x_iconst (v := 0) C d_Mo_behind_93 (by decide) ?_
                    rw [hbs]
                    refine x_callV C l_Mo_151 v_Mo_cell d_Mo_behind_94 (m_Mo_cell (r := kb) (c := 0) fm hlen g_cells fce (by omega)) fm rfl (by rfl) (by rfl) (by decide) (by decide) (Nat.le_of_ble_eq_true rfl) ?_
                    rintro v9 h9 ⟨rfl, rfl⟩
                    rw [Nat.add_zero]
                    refine x_icmp_le (tgt := 123) C d_Mo_behind_97 rfl (fun q97 => ?_) (fun q97 => ?_)
                    · skip
                      refine x_iconst (v := 0) C d_Mo_behind_123 (by decide) ?_
                      refine x_istore (lv' := [(5, _), (4, _), (3, _), (0, _), (1, _), (2, _)]) C d_Mo_behind_124 (by decide) (by rfl) ?_
                      refine x_iload C d_Mo_behind_126 rfl ?_
                      refine x_if_eq (tgt := 136) C d_Mo_behind_128 rfl (fun q128 => ?_) (fun q128 => ?_)
                      · skip
                        refine x_iload_n C d_Mo_behind_136 rfl rfl ?_
                        refine x_istore_n (lv' := [(3, _), (5, _), (4, _), (0, _), (1, _), (2, _)]) C d_Mo_behind_137 rfl (by decide) (by rfl) ?_
                        refine x_iinc (v := nI (i + 1)) (k0 := 2) (lv' := [(4, _), (3, _), (5, _), (0, _), (1, _), (2, _)]) C d_Mo_behind_138 (by rfl) (nI_1 i) (by decide) (by rfl) ?_
                        refine x_goto (tgt := 5) C d_Mo_behind_141 rfl ?_
                        refine x_lv (lv' := [(4, _), (3, _), (0, _), (1, _), (2, _)]) [0, 1, 3, 4, 5] C (by rfl) ?_
                        try rw [← hR]
                        first | exact ih (i + 1) _ (by omega) (by omega) (hr.skip hno) | exact ih (i + 1) _ (by omega) (by omega) (hr.take hca (Or.inl q74) (by omega)) | exact ih (i + 1) _ (by omega) (by omega) (hr.take hca (Or.inr ⟨kb, hbs, hkb, nrr_p q81 (Int32.not_le.mp q116)⟩) (by omega)) | exact ih (i + 1) _ (by omega) (by omega) (hr.take hca (Or.inr ⟨kb, hbs, hkb, nrr_n q81 (Int32.not_le.mp q97)⟩) (by omega)) | exact ih (i + 1) _ (by omega) (by omega) (hr.stay hbs hkb (nrr_pn q81 q116) (by omega)) | exact ih (i + 1) _ (by omega) (by omega) (hr.stay hbs hkb (nrr_nn q81 q97) (by omega))
                      · skip
                        exact absurd q128 (by decide)
                    · skip
                      refine x_goto (tgt := 119) C d_Mo_behind_100 rfl ?_
                      refine x_iconst (v := 1) C d_Mo_behind_119 (by decide) ?_
                      refine x_goto (tgt := 124) C d_Mo_behind_120 rfl ?_
                      refine x_istore (lv' := [(5, _), (4, _), (3, _), (0, _), (1, _), (2, _)]) C d_Mo_behind_124 (by decide) (by rfl) ?_
                      refine x_iload C d_Mo_behind_126 rfl ?_
                      refine x_if_eq (tgt := 136) C d_Mo_behind_128 rfl (fun q128 => ?_) (fun q128 => ?_)
                      · skip
                        exact absurd q128 (by decide)
                      · skip
                        refine x_iload C d_Mo_behind_131 rfl ?_
                        refine x_goto (tgt := 137) C d_Mo_behind_133 rfl ?_
                        refine x_istore_n (lv' := [(3, _), (5, _), (4, _), (0, _), (1, _), (2, _)]) C d_Mo_behind_137 rfl (by decide) (by rfl) ?_
                        refine x_iinc (v := nI (i + 1)) (k0 := 2) (lv' := [(4, _), (3, _), (5, _), (0, _), (1, _), (2, _)]) C d_Mo_behind_138 (by rfl) (nI_1 i) (by decide) (by rfl) ?_
                        refine x_goto (tgt := 5) C d_Mo_behind_141 rfl ?_
                        refine x_lv (lv' := [(4, _), (3, _), (0, _), (1, _), (2, _)]) [0, 1, 3, 4, 5] C (by rfl) ?_
                        try rw [← hR]
                        first | exact ih (i + 1) _ (by omega) (by omega) (hr.skip hno) | exact ih (i + 1) _ (by omega) (by omega) (hr.take hca (Or.inl q74) (by omega)) | exact ih (i + 1) _ (by omega) (by omega) (hr.take hca (Or.inr ⟨kb, hbs, hkb, nrr_p q81 (Int32.not_le.mp q116)⟩) (by omega)) | exact ih (i + 1) _ (by omega) (by omega) (hr.take hca (Or.inr ⟨kb, hbs, hkb, nrr_n q81 (Int32.not_le.mp q97)⟩) (by omega)) | exact ih (i + 1) _ (by omega) (by omega) (hr.stay hbs hkb (nrr_pn q81 q116) (by omega)) | exact ih (i + 1) _ (by omega) (by omega) (hr.stay hbs hkb (nrr_nn q81 q97) (by omega))
  refine x_iconst (v := -1) C d_Mo_behind_0 (by decide) ?_
  refine x_istore_n (lv' := [(3, _), (0, _), (1, _), (2, _)]) C d_Mo_behind_1 rfl (by decide) (by rfl) ?_
  refine x_iconst (v := 0) C d_Mo_behind_2 (by decide) ?_
  refine x_istore (lv' := [(4, _), (3, _), (0, _), (1, _), (2, _)]) C d_Mo_behind_3 (by decide) (by rfl) ?_
  exact loop (N + 1) 0 (-1) (by omega) (by omega) (Or.inl ⟨rfl, lt_0⟩)
