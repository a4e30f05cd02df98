/-! CursorBaseModel: feed, clear, rows, constructor -/
set_option maxRecDepth 20000 in
set_option maxHeartbeats 1000000 in
theorem m_Mo_feed {V : xV} {h : xH} {mki mnu n : Nat} {ks ns : Nat → Int32} {m : Nat} {fs : List Value} (fm : h m = some (.inr (8, fs))) (hlen : fs.length = 29) (g_kinds : fs[5]? = some (.ref mki)) (g_numbers : fs[6]? = some (.ref mnu)) (g_pending : fs[7]? = some (.int (nI n))) (fki : h mki = some (xI V 60 ks)) (fnu : h mnu = some (xI V 60 ns)) (w0 : mki ≠ mnu) (hn60 : n ≤ 60) (kind number : Int32) : xM V y_Mo_feed b_Mo_feed 4 (some .int) 1 [.ref m, .int kind, .int number] h 0 0 (fun v h' => ∃ fs' ks' ns', h' m = some (.inr (8, fs')) ∧ mUp [0, 7] fs fs' ∧ h' mki = some (xI V 60 ks') ∧ h' mnu = some (xI V 60 ns') ∧ xKeep [m, mki, mnu] h h' ∧ ((tokOK kind number = false ∧ v = some (.int 0) ∧ fs'[0]? = some (.int 1) ∧ fs'[7]? = some (.int (nI n)) ∧ ks' = ks ∧ ns' = ns) ∨ (tokOK kind number = true ∧ n = 60 ∧ v = some (.int 0) ∧ fs'[0]? = some (.int 2) ∧ fs'[7]? = some (.int (nI n)) ∧ ks' = ks ∧ ns' = ns) ∨ (tokOK kind number = true ∧ n < 60 ∧ v = some (.int (nI (n + 1))) ∧ fs'[0]? = some (.int 0) ∧ fs'[7]? = some (.int (nI (n + 1))) ∧ ks' = upd ks n kind ∧ ns' = upd ns n number))) := by
  refine xM_of false (by decide) (fun h => nomatch h) (Nat.le_of_ble_eq_true rfl) (fun K C => ?_)
  show K 0 0 h 0 [(0, .ref m), (1, .int kind), (2, .int number)] []
  have kp : xKeep [m, mki, mnu] h h := xKeep.rf
  have mu : mUp [0, 7] fs fs := mUp.rf
  have loop : ∀ mq : Nat, (0 < mq → K 0 0 h 83 [(3, .int (bI (tokOK kind number))), (0, .ref m), (1, .int kind), (2, .int number)] []) := by
    intro mq
    induction mq with
    | zero => intro hm; omega
    | succ mq ih =>
      intro hm
      refine x_aload_n C d_Mo_feed_83 rfl rfl ?_
      refine x_iload_n C d_Mo_feed_84 rfl rfl ?_
      refine x_if_ne (tgt := 92) C d_Mo_feed_85 rfl (fun q85 => ?_) (fun q85 => ?_)
      · skip
        have htk := bI_t q85
        refine x_aload_n C d_Mo_feed_92 rfl rfl ?_
        refine x_get C k_Mo f_Mo_49 d_Mo_feed_93 fm g_pending ?_
        refine x_bipush (v := 60) C d_Mo_feed_96 (by decide) ?_
        refine x_icmp_ne (tgt := 105) C d_Mo_feed_98 rfl (fun q98 => ?_) (fun q98 => ?_)
        · skip
          have hnl : n < 60 := by rcases Nat.lt_or_ge n 60 with z | z; exact z; exact absurd (show nI n = 60 by rw [show n = 60 by omega]; rfl) q98
          refine x_iconst (v := 0) C d_Mo_feed_105 (by decide) ?_
          refine x_put C k_Mo f_Mo_31 d_Mo_feed_106 fm (by rfl) (by rfl) (by rfl) (by omega) rfl (fun h1 u1 => ?_)
          have fki := xUp_ne u1 fki (by first | assumption | exact Ne.symm (by assumption) | exact x_ne fki fm (by simp))
          have fnu := xUp_ne u1 fnu (by first | assumption | exact Ne.symm (by assumption) | exact x_ne fnu fm (by simp))
          have fm := xUp_at u1
          have kp := kp.up u1 (by simp)
          have g_kinds := gs_ne fm g_kinds (by decide)
          have g_numbers := gs_ne fm g_numbers (by decide)
          have g_pending := gs_ne fm g_pending (by decide)
          have g_thrown := gs_eq fm hlen (by decide)
          have mu := mu.setF fm (by decide)
          have hlen := gs_len fm hlen
          refine x_aload_n C d_Mo_feed_109 rfl rfl ?_
          refine x_get C k_Mo f_Mo_31 d_Mo_feed_110 fm g_thrown ?_
          refine x_if_le (tgt := 118) C d_Mo_feed_113 rfl (fun q113 => ?_) (fun q113 => ?_)
          · skip
            refine x_aload_n C d_Mo_feed_118 rfl rfl ?_
            refine x_get C k_Mo f_Mo_19 d_Mo_feed_119 fm g_kinds ?_
            refine x_aload_n C d_Mo_feed_122 rfl rfl ?_
            refine x_get C k_Mo f_Mo_49 d_Mo_feed_123 fm g_pending ?_
            refine x_iload_n C d_Mo_feed_126 rfl rfl ?_
            refine x_iast C d_Mo_feed_127 fki (vp_in_nI (by omega) (by decide)) (fun h2 u2 => ?_)
            have fm := xUp_ne u2 fm (by first | assumption | exact Ne.symm (by assumption) | exact x_ne fm fki (by simp))
            have fnu := xUp_ne u2 fnu (by first | assumption | exact Ne.symm (by assumption) | exact x_ne fnu fki (by simp))
            have fki := xUp_at u2
            have kp := kp.up u2 (by simp)
            refine x_aload_n C d_Mo_feed_128 rfl rfl ?_
            refine x_get C k_Mo f_Mo_22 d_Mo_feed_129 fm g_numbers ?_
            refine x_aload_n C d_Mo_feed_132 rfl rfl ?_
            refine x_get C k_Mo f_Mo_49 d_Mo_feed_133 fm g_pending ?_
            refine x_iload_n C d_Mo_feed_136 rfl rfl ?_
            refine x_iast C d_Mo_feed_137 fnu (vp_in_nI (by omega) (by decide)) (fun h3 u3 => ?_)
            have fm := xUp_ne u3 fm (by first | assumption | exact Ne.symm (by assumption) | exact x_ne fm fnu (by simp))
            have fki := xUp_ne u3 fki (by first | assumption | exact Ne.symm (by assumption) | exact x_ne fki fnu (by simp))
            have fnu := xUp_at u3
            have kp := kp.up u3 (by simp)
            refine x_aload_n C d_Mo_feed_138 rfl rfl ?_
            refine x_dup C d_Mo_feed_139 rfl ?_
            refine x_get C k_Mo f_Mo_49 d_Mo_feed_140 fm g_pending ?_
            refine x_iconst (v := 1) C d_Mo_feed_143 (by decide) ?_
            refine x_iadd C d_Mo_feed_144 ?_
            refine x_put C k_Mo f_Mo_49 d_Mo_feed_145 fm (by rfl) (by rfl) (by rfl) (by omega) rfl (fun h4 u4 => ?_)
            have fki := xUp_ne u4 fki (by first | assumption | exact Ne.symm (by assumption) | exact x_ne fki fm (by simp))
            have fnu := xUp_ne u4 fnu (by first | assumption | exact Ne.symm (by assumption) | exact x_ne fnu fm (by simp))
            have fm := xUp_at u4
            have kp := kp.up u4 (by simp)
            have g_kinds := gs_ne fm g_kinds (by decide)
            have g_numbers := gs_ne fm g_numbers (by decide)
            have g_thrown := gs_ne fm g_thrown (by decide)
            have g_pending := gs_eq fm hlen (by decide)
            have mu := mu.setF fm (by decide)
            have hlen := gs_len fm hlen
            refine x_aload_n C d_Mo_feed_148 rfl rfl ?_
            refine x_get C k_Mo f_Mo_49 d_Mo_feed_149 fm g_pending ?_
            refine x_iret C d_Mo_feed_152 ?_
            exact ⟨_, upd ks n kind, upd ns n number, fm, mu, by rw [fki, nI_clamp (by omega)], by rw [fnu, nI_clamp (by omega)], kp, Or.inr (Or.inr ⟨htk, hnl, by rw [nI_1], g_thrown, by rw [g_pending, nI_1], rfl, rfl⟩)⟩
          · skip
            exact absurd q113 (by decide)
        · skip
          have hnl : n = 60 := (nI_eq (b := 60) (by omega) (by omega)).mp q98
          refine x_iconst (v := 2) C d_Mo_feed_101 (by decide) ?_
          refine x_goto (tgt := 106) C d_Mo_feed_102 rfl ?_
          refine x_put C k_Mo f_Mo_31 d_Mo_feed_106 fm (by rfl) (by rfl) (by rfl) (by omega) rfl (fun h5 u5 => ?_)
          have fki := xUp_ne u5 fki (by first | assumption | exact Ne.symm (by assumption) | exact x_ne fki fm (by simp))
          have fnu := xUp_ne u5 fnu (by first | assumption | exact Ne.symm (by assumption) | exact x_ne fnu fm (by simp))
          have fm := xUp_at u5
          have kp := kp.up u5 (by simp)
          have g_kinds := gs_ne fm g_kinds (by decide)
          have g_numbers := gs_ne fm g_numbers (by decide)
          have g_pending := gs_ne fm g_pending (by decide)
          have g_thrown := gs_eq fm hlen (by decide)
          have mu := mu.setF fm (by decide)
          have hlen := gs_len fm hlen
          refine x_aload_n C d_Mo_feed_109 rfl rfl ?_
          refine x_get C k_Mo f_Mo_31 d_Mo_feed_110 fm g_thrown ?_
          refine x_if_le (tgt := 118) C d_Mo_feed_113 rfl (fun q113 => ?_) (fun q113 => ?_)
          · skip
            exact absurd q113 (by decide)
          · skip
            refine x_iconst (v := 0) C d_Mo_feed_116 (by decide) ?_
            refine x_iret C d_Mo_feed_117 ?_
            first | exact ⟨_, ks, ns, fm, mu, fki, fnu, kp, Or.inl ⟨htk, rfl, g_thrown, g_pending, rfl, rfl⟩⟩ | exact ⟨_, ks, ns, fm, mu, fki, fnu, kp, Or.inr (Or.inl ⟨htk, hnl, rfl, g_thrown, g_pending, rfl, rfl⟩)⟩
      · skip
        have htk := bI_f q85
        refine x_iconst (v := 1) C d_Mo_feed_88 (by decide) ?_
        refine x_goto (tgt := 106) C d_Mo_feed_89 rfl ?_
        refine x_put C k_Mo f_Mo_31 d_Mo_feed_106 fm (by rfl) (by rfl) (by rfl) (by omega) rfl (fun h6 u6 => ?_)
        have fki := xUp_ne u6 fki (by first | assumption | exact Ne.symm (by assumption) | exact x_ne fki fm (by simp))
        have fnu := xUp_ne u6 fnu (by first | assumption | exact Ne.symm (by assumption) | exact x_ne fnu fm (by simp))
        have fm := xUp_at u6
        have kp := kp.up u6 (by simp)
        have g_kinds := gs_ne fm g_kinds (by decide)
        have g_numbers := gs_ne fm g_numbers (by decide)
        have g_pending := gs_ne fm g_pending (by decide)
        have g_thrown := gs_eq fm hlen (by decide)
        have mu := mu.setF fm (by decide)
        have hlen := gs_len fm hlen
        refine x_aload_n C d_Mo_feed_109 rfl rfl ?_
        refine x_get C k_Mo f_Mo_31 d_Mo_feed_110 fm g_thrown ?_
        refine x_if_le (tgt := 118) C d_Mo_feed_113 rfl (fun q113 => ?_) (fun q113 => ?_)
        · skip
          exact absurd q113 (by decide)
        · skip
          refine x_iconst (v := 0) C d_Mo_feed_116 (by decide) ?_
          refine x_iret C d_Mo_feed_117 ?_
          first | exact ⟨_, ks, ns, fm, mu, fki, fnu, kp, Or.inl ⟨htk, rfl, g_thrown, g_pending, rfl, rfl⟩⟩ | exact ⟨_, ks, ns, fm, mu, fki, fnu, kp, Or.inr (Or.inl ⟨htk, hnl, rfl, g_thrown, g_pending, rfl, rfl⟩)⟩
  refine x_iload_n C d_Mo_feed_0 rfl rfl ?_
  refine x_if_ne (tgt := 16) C d_Mo_feed_1 rfl (fun q1 => ?_) (fun q1 => ?_)
  · skip
    refine x_iload_n C d_Mo_feed_16 rfl rfl ?_
    refine x_iconst (v := 1) C d_Mo_feed_17 (by decide) ?_
    refine x_icmp_ne (tgt := 33) C d_Mo_feed_18 rfl (fun q18 => ?_) (fun q18 => ?_)
    · skip
      refine x_iload_n C d_Mo_feed_33 rfl rfl ?_
      refine x_iconst (v := 2) C d_Mo_feed_34 (by decide) ?_
      refine x_icmp_ne (tgt := 72) C d_Mo_feed_35 rfl (fun q35 => ?_) (fun q35 => ?_)
      · skip
        refine x_iload_n C d_Mo_feed_72 rfl rfl ?_
        refine x_iconst (v := 3) C d_Mo_feed_73 (by decide) ?_
        refine x_icmp_ne (tgt := 81) C d_Mo_feed_74 rfl (fun q74 => ?_) (fun q74 => ?_)
        · skip
          refine x_iconst (v := 0) C d_Mo_feed_81 (by decide) ?_
          refine x_istore_n (lv' := [(3, _), (0, _), (1, _), (2, _)]) C d_Mo_feed_82 rfl (by decide) (by rfl) ?_
          have hj : ∀ b : Bool, b = tokOK kind number → K 0 0 _ 83 [(3, .int (bI b)), (0, .ref m), (1, .int kind), (2, .int number)] [] := fun b hb => by rw [hb]; exact loop 1 (by omega)
          first | exact hj _ (tok_w q1).symm | exact hj _ (tok_t q1 q18).symm | exact hj true (by unfold tokOK; rw [if_neg q1, if_neg q18, if_pos q35, col05, q47]; rfl) | exact hj true (by unfold tokOK; rw [if_neg q1, if_neg q18, if_pos q35, col1015, q61, Bool.or_true]) | exact hj false (by unfold tokOK; rw [if_neg q1, if_neg q18, if_pos q35, col05, col1015, q47, q61]; rfl) | exact hj true (by unfold tokOK; rw [if_neg q1, if_neg q18, if_neg q35, decide_eq_true q74]) | exact hj false (by unfold tokOK; rw [if_neg q1, if_neg q18, if_neg q35, decide_eq_false q74])
        · skip
          refine x_iconst (v := 1) C d_Mo_feed_77 (by decide) ?_
          refine x_goto (tgt := 82) C d_Mo_feed_78 rfl ?_
          refine x_istore_n (lv' := [(3, _), (0, _), (1, _), (2, _)]) C d_Mo_feed_82 rfl (by decide) (by rfl) ?_
          have hj : ∀ b : Bool, b = tokOK kind number → K 0 0 _ 83 [(3, .int (bI b)), (0, .ref m), (1, .int kind), (2, .int number)] [] := fun b hb => by rw [hb]; exact loop 1 (by omega)
          first | exact hj _ (tok_w q1).symm | exact hj _ (tok_t q1 q18).symm | exact hj true (by unfold tokOK; rw [if_neg q1, if_neg q18, if_pos q35, col05, q47]; rfl) | exact hj true (by unfold tokOK; rw [if_neg q1, if_neg q18, if_pos q35, col1015, q61, Bool.or_true]) | exact hj false (by unfold tokOK; rw [if_neg q1, if_neg q18, if_pos q35, col05, col1015, q47, q61]; rfl) | exact hj true (by unfold tokOK; rw [if_neg q1, if_neg q18, if_neg q35, decide_eq_true q74]) | exact hj false (by unfold tokOK; rw [if_neg q1, if_neg q18, if_neg q35, decide_eq_false q74])
      · skip
        refine x_iload_n C d_Mo_feed_38 rfl rfl ?_
        refine x_i2l C d_Mo_feed_39 ?_
        refine x_lconst (v := 0) C d_Mo_feed_40 (by decide) ?_
        refine x_ldc2 C q_Mo_43 d_Mo_feed_41 ?_
        refine x_callS C l_Mo_37 v_Mo_in d_Mo_feed_44 (m_Mo_in number.toInt64 0 5) (by rfl) (by rfl) (by decide) (by decide) (Nat.le_of_ble_eq_true rfl) ?_
        rintro v9 h9 ⟨rfl, rfl⟩
        rw [lc_in (a := 0) (b := 5) (by decide) (by decide)]
        refine x_if_ne (tgt := 64) C d_Mo_feed_47 rfl (fun q47 => ?_) (fun q47 => ?_)
        · skip
          replace q47 := bI_t q47
          refine x_iconst (v := 1) C d_Mo_feed_64 (by decide) ?_
          refine x_goto (tgt := 82) C d_Mo_feed_65 rfl ?_
          refine x_istore_n (lv' := [(3, _), (0, _), (1, _), (2, _)]) C d_Mo_feed_82 rfl (by decide) (by rfl) ?_
          have hj : ∀ b : Bool, b = tokOK kind number → K 0 0 _ 83 [(3, .int (bI b)), (0, .ref m), (1, .int kind), (2, .int number)] [] := fun b hb => by rw [hb]; exact loop 1 (by omega)
          first | exact hj _ (tok_w q1).symm | exact hj _ (tok_t q1 q18).symm | exact hj true (by unfold tokOK; rw [if_neg q1, if_neg q18, if_pos q35, col05, q47]; rfl) | exact hj true (by unfold tokOK; rw [if_neg q1, if_neg q18, if_pos q35, col1015, q61, Bool.or_true]) | exact hj false (by unfold tokOK; rw [if_neg q1, if_neg q18, if_pos q35, col05, col1015, q47, q61]; rfl) | exact hj true (by unfold tokOK; rw [if_neg q1, if_neg q18, if_neg q35, decide_eq_true q74]) | exact hj false (by unfold tokOK; rw [if_neg q1, if_neg q18, if_neg q35, decide_eq_false q74])
        · skip
          replace q47 := bI_f q47
          refine x_iload_n C d_Mo_feed_50 rfl rfl ?_
          refine x_i2l C d_Mo_feed_51 ?_
          refine x_ldc2 C q_Mo_45 d_Mo_feed_52 ?_
          refine x_ldc2 C q_Mo_47 d_Mo_feed_55 ?_
          refine x_callS C l_Mo_37 v_Mo_in d_Mo_feed_58 (m_Mo_in number.toInt64 10 15) (by rfl) (by rfl) (by decide) (by decide) (Nat.le_of_ble_eq_true rfl) ?_
          rintro v9 h9 ⟨rfl, rfl⟩
          rw [lc_in (a := 10) (b := 15) (by decide) (by decide)]
          refine x_if_eq (tgt := 68) C d_Mo_feed_61 rfl (fun q61 => ?_) (fun q61 => ?_)
          · skip
            replace q61 := bI_f q61
            refine x_iconst (v := 0) C d_Mo_feed_68 (by decide) ?_
            refine x_goto (tgt := 82) C d_Mo_feed_69 rfl ?_
            refine x_istore_n (lv' := [(3, _), (0, _), (1, _), (2, _)]) C d_Mo_feed_82 rfl (by decide) (by rfl) ?_
            have hj : ∀ b : Bool, b = tokOK kind number → K 0 0 _ 83 [(3, .int (bI b)), (0, .ref m), (1, .int kind), (2, .int number)] [] := fun b hb => by rw [hb]; exact loop 1 (by omega)
            first | exact hj _ (tok_w q1).symm | exact hj _ (tok_t q1 q18).symm | exact hj true (by unfold tokOK; rw [if_neg q1, if_neg q18, if_pos q35, col05, q47]; rfl) | exact hj true (by unfold tokOK; rw [if_neg q1, if_neg q18, if_pos q35, col1015, q61, Bool.or_true]) | exact hj false (by unfold tokOK; rw [if_neg q1, if_neg q18, if_pos q35, col05, col1015, q47, q61]; rfl) | exact hj true (by unfold tokOK; rw [if_neg q1, if_neg q18, if_neg q35, decide_eq_true q74]) | exact hj false (by unfold tokOK; rw [if_neg q1, if_neg q18, if_neg q35, decide_eq_false q74])
          · skip
            replace q61 := bI_t q61
            refine x_iconst (v := 1) C d_Mo_feed_64 (by decide) ?_
            refine x_goto (tgt := 82) C d_Mo_feed_65 rfl ?_
            refine x_istore_n (lv' := [(3, _), (0, _), (1, _), (2, _)]) C d_Mo_feed_82 rfl (by decide) (by rfl) ?_
            have hj : ∀ b : Bool, b = tokOK kind number → K 0 0 _ 83 [(3, .int (bI b)), (0, .ref m), (1, .int kind), (2, .int number)] [] := fun b hb => by rw [hb]; exact loop 1 (by omega)
            first | exact hj _ (tok_w q1).symm | exact hj _ (tok_t q1 q18).symm | exact hj true (by unfold tokOK; rw [if_neg q1, if_neg q18, if_pos q35, col05, q47]; rfl) | exact hj true (by unfold tokOK; rw [if_neg q1, if_neg q18, if_pos q35, col1015, q61, Bool.or_true]) | exact hj false (by unfold tokOK; rw [if_neg q1, if_neg q18, if_pos q35, col05, col1015, q47, q61]; rfl) | exact hj true (by unfold tokOK; rw [if_neg q1, if_neg q18, if_neg q35, decide_eq_true q74]) | exact hj false (by unfold tokOK; rw [if_neg q1, if_neg q18, if_neg q35, decide_eq_false q74])
    · skip
      refine x_iload_n C d_Mo_feed_21 rfl rfl ?_
      refine x_i2l C d_Mo_feed_22 ?_
      refine x_lconst (v := 0) C d_Mo_feed_23 (by decide) ?_
      refine x_ldc2 C q_Mo_41 d_Mo_feed_24 ?_
      refine x_callS C l_Mo_37 v_Mo_in d_Mo_feed_27 (m_Mo_in number.toInt64 0 9) (by rfl) (by rfl) (by decide) (by decide) (Nat.le_of_ble_eq_true rfl) ?_
      rintro v9 h9 ⟨rfl, rfl⟩
      rw [lc_in (a := 0) (b := 9) (by decide) (by decide)]
      refine x_goto (tgt := 82) C d_Mo_feed_30 rfl ?_
      refine x_istore_n (lv' := [(3, _), (0, _), (1, _), (2, _)]) C d_Mo_feed_82 rfl (by decide) (by rfl) ?_
      have hj : ∀ b : Bool, b = tokOK kind number → K 0 0 _ 83 [(3, .int (bI b)), (0, .ref m), (1, .int kind), (2, .int number)] [] := fun b hb => by rw [hb]; exact loop 1 (by omega)
      first | exact hj _ (tok_w q1).symm | exact hj _ (tok_t q1 q18).symm | exact hj true (by unfold tokOK; rw [if_neg q1, if_neg q18, if_pos q35, col05, q47]; rfl) | exact hj true (by unfold tokOK; rw [if_neg q1, if_neg q18, if_pos q35, col1015, q61, Bool.or_true]) | exact hj false (by unfold tokOK; rw [if_neg q1, if_neg q18, if_pos q35, col05, col1015, q47, q61]; rfl) | exact hj true (by unfold tokOK; rw [if_neg q1, if_neg q18, if_neg q35, decide_eq_true q74]) | exact hj false (by unfold tokOK; rw [if_neg q1, if_neg q18, if_neg q35, decide_eq_false q74])
  · skip
    refine x_iload_n C d_Mo_feed_4 rfl rfl ?_
    refine x_i2l C d_Mo_feed_5 ?_
    refine x_lconst (v := 0) C d_Mo_feed_6 (by decide) ?_
    refine x_ldc2 C q_Mo_35 d_Mo_feed_7 ?_
    refine x_callS C l_Mo_37 v_Mo_in d_Mo_feed_10 (m_Mo_in number.toInt64 0 13) (by rfl) (by rfl) (by decide) (by decide) (Nat.le_of_ble_eq_true rfl) ?_
    rintro v9 h9 ⟨rfl, rfl⟩
    rw [lc_in (a := 0) (b := 13) (by decide) (by decide)]
    refine x_goto (tgt := 82) C d_Mo_feed_13 rfl ?_
    refine x_istore_n (lv' := [(3, _), (0, _), (1, _), (2, _)]) C d_Mo_feed_82 rfl (by decide) (by rfl) ?_
    have hj : ∀ b : Bool, b = tokOK kind number → K 0 0 _ 83 [(3, .int (bI b)), (0, .ref m), (1, .int kind), (2, .int number)] [] := fun b hb => by rw [hb]; exact loop 1 (by omega)
    first | exact hj _ (tok_w q1).symm | exact hj _ (tok_t q1 q18).symm | exact hj true (by unfold tokOK; rw [if_neg q1, if_neg q18, if_pos q35, col05, q47]; rfl) | exact hj true (by unfold tokOK; rw [if_neg q1, if_neg q18, if_pos q35, col1015, q61, Bool.or_true]) | exact hj false (by unfold tokOK; rw [if_neg q1, if_neg q18, if_pos q35, col05, col1015, q47, q61]; rfl) | exact hj true (by unfold tokOK; rw [if_neg q1, if_neg q18, if_neg q35, decide_eq_true q74]) | exact hj false (by unfold tokOK; rw [if_neg q1, if_neg q18, if_neg q35, decide_eq_false q74])
set_option maxRecDepth 20000 in
set_option maxHeartbeats 1000000 in
theorem m_Mo_clear {V : xV} {h : xH} {mco : Nat} {c : Nat → Int32} {m : Nat} {fs : List Value} (fm : h m = some (.inr (8, fs))) (hlen : fs.length = 29) (g_columns : fs[1]? = some (.ref mco)) (fco : h mco = some (xI V 10 c)) : xM V y_Mo_clear b_Mo_clear 2 none 1 [.ref m] h 0 0 (fun v h' => v = none ∧ ∃ fs' c', h' m = some (.inr (8, fs')) ∧ mUp [0, 4, 7, 11, 17, 18, 19, 20, 21] fs fs' ∧ h' mco = some (xI V 10 c') ∧ (∀ i, i < 10 → c' i = 0) ∧ xKeep [m, mco] h h' ∧ fs'[0]? = some (.int 0) ∧ fs'[4]? = some (.int 0) ∧ fs'[7]? = some (.int 0) ∧ fs'[11]? = some (.int 0) ∧ fs'[17]? = some (.int 0) ∧ fs'[18]? = some (.int 0) ∧ fs'[19]? = some (.int (-1)) ∧ fs'[20]? = some (.int (-1)) ∧ fs'[21]? = some (.int 0)) := by
  refine xM_of false (by decide) (fun h => nomatch h) (Nat.le_of_ble_eq_true rfl) (fun K C => ?_)
  show K 0 0 h 0 [(0, .ref m)] []
  have kp : xKeep [m, mco] h h := xKeep.rf
  have mu : mUp [0, 4, 7, 11, 17, 18, 19, 20, 21] fs fs := mUp.rf
  have loop : ∀ mq : Nat, ∀ (i : Nat) (h1 : xH) (fs1 : List Value) (c1 : Nat → Int32), 10 - i < mq → i ≤ 10 → h1 m = some (.inr (8, fs1)) → mUp [0, 4, 7, 11, 17, 18, 19, 20, 21] fs fs1 → h1 mco = some (xI V 10 c1) → xKeep [m, mco] h h1 → (∀ j, j < i → c1 j = 0) → fs1[0]? = some (.int 0) → fs1[4]? = some (.int 0) → fs1[7]? = some (.int 0) → fs1[11]? = some (.int 0) → K 0 0 h1 22 [(1, .int (nI i)), (0, .ref m)] [] := by
    intro mq
    induction mq with
    | zero => intro i h1 fs1 c1 hm hi fm mu fco kp hz g_thrown g_rows g_pending g_there; omega
    | succ mq ih =>
      intro i h1 fs1 c1 hm hi fm mu fco kp hz g_thrown g_rows g_pending g_there
      have hlen := mu.1.trans hlen
      have g_columns := mu.get g_columns (by decide)
      refine x_iload_n C d_Mo_clear_22 rfl rfl ?_
      refine x_bipush (v := 10) C d_Mo_clear_23 (by decide) ?_
      refine x_icmp_ge (tgt := 41) C d_Mo_clear_25 rfl (fun q25 => ?_) (fun q25 => ?_)
      · skip
        have hi2 : i = 10 := by have := nge_of (b := 10) q25 (by omega); omega
        refine x_aload_n C d_Mo_clear_41 rfl rfl ?_
        refine x_callV C l_Mo_133 v_Mo_begins d_Mo_clear_42 (m_Mo_begins fm hlen) fm rfl (by rfl) (by rfl) (by decide) (by decide) (Nat.le_of_ble_eq_true rfl) ?_
        rintro v1 h1 ⟨rfl, fs1, fm', mu1, g1_state, g1_given, g1_at, g1_beside, g1_row, kp1⟩
        have fco := kp1.get fco (nm_c (by first | assumption | exact Ne.symm (by assumption) | exact x_ne fco fm (by simp)) nm_n)
        have kp := kp.call kp1 (kc_c (Or.inl (by simp)) kc_n)
        have fm := fm'
        have hlen := mu1.1.trans hlen
        have g_columns := mu1.get g_columns (by decide)
        have g_thrown := mu1.get g_thrown (by decide)
        have g_rows := mu1.get g_rows (by decide)
        have g_pending := mu1.get g_pending (by decide)
        have g_there := mu1.get g_there (by decide)
        have g_state := g1_state
        have g_given := g1_given
        have g_at := g1_at
        have g_beside := g1_beside
        have g_row := g1_row
        have mu := mu.tr mu1 (by decide)
        refine x_vret C d_Mo_clear_45 ?_
        exact ⟨rfl, _, c1, fm, mu, fco, (by subst hi2; exact hz), kp, g_thrown, g_rows, g_pending, g_there, g_state, g_given, g_at, g_beside, g_row⟩
      · skip
        have hi2 := nlt_of (b := 10) q25 (by omega) (by omega)
        refine x_aload_n C d_Mo_clear_28 rfl rfl ?_
        refine x_get C k_Mo f_Mo_7 d_Mo_clear_29 fm g_columns ?_
        refine x_iload_n C d_Mo_clear_32 rfl rfl ?_
        refine x_iconst (v := 0) C d_Mo_clear_33 (by decide) ?_
        refine x_iast C d_Mo_clear_34 fco (vp_in_nI (by omega) (by decide)) (fun h2 u2 => ?_)
        have fm := xUp_ne u2 fm (by first | assumption | exact Ne.symm (by assumption) | exact x_ne fm fco (by simp))
        have fco := xUp_at u2
        have kp := kp.up u2 (by simp)
        refine x_iinc (v := nI (i + 1)) (k0 := 0) (lv' := [(1, _), (0, _)]) C d_Mo_clear_35 (by rfl) (nI_1 i) (by decide) (by rfl) ?_
        refine x_goto (tgt := 22) C d_Mo_clear_38 rfl ?_
        refine ih (i + 1) _ _ (upd c1 i 0) (by omega) (by omega) fm mu (by rw [fco, nI_clamp (by omega)]) kp (fun j hj => ?_) g_thrown g_rows g_pending g_there
        by_cases hji : j = i
        · subst hji; exact pk_us
        · rw [pk_un hji]; exact hz j (by omega)
  refine x_aload_n C d_Mo_clear_0 rfl rfl ?_
  refine x_iconst (v := 0) C d_Mo_clear_1 (by decide) ?_
  refine x_put C k_Mo f_Mo_31 d_Mo_clear_2 fm (by rfl) (by rfl) (by rfl) (by omega) rfl (fun h3 u3 => ?_)
  have fco := xUp_ne u3 fco (by first | assumption | exact Ne.symm (by assumption) | exact x_ne fco fm (by simp))
  have fm := xUp_at u3
  have kp := kp.up u3 (by simp)
  have g_columns := gs_ne fm g_columns (by decide)
  have g_thrown := gs_eq fm hlen (by decide)
  have mu := mu.setF fm (by decide)
  have hlen := gs_len fm hlen
  refine x_aload_n C d_Mo_clear_5 rfl rfl ?_
  refine x_iconst (v := 0) C d_Mo_clear_6 (by decide) ?_
  refine x_put C k_Mo f_Mo_159 d_Mo_clear_7 fm (by rfl) (by rfl) (by rfl) (by omega) rfl (fun h4 u4 => ?_)
  have fco := xUp_ne u4 fco (by first | assumption | exact Ne.symm (by assumption) | exact x_ne fco fm (by simp))
  have fm := xUp_at u4
  have kp := kp.up u4 (by simp)
  have g_columns := gs_ne fm g_columns (by decide)
  have g_thrown := gs_ne fm g_thrown (by decide)
  have g_rows := gs_eq fm hlen (by decide)
  have mu := mu.setF fm (by decide)
  have hlen := gs_len fm hlen
  refine x_aload_n C d_Mo_clear_10 rfl rfl ?_
  refine x_iconst (v := 0) C d_Mo_clear_11 (by decide) ?_
  refine x_put C k_Mo f_Mo_49 d_Mo_clear_12 fm (by rfl) (by rfl) (by rfl) (by omega) rfl (fun h5 u5 => ?_)
  have fco := xUp_ne u5 fco (by first | assumption | exact Ne.symm (by assumption) | exact x_ne fco fm (by simp))
  have fm := xUp_at u5
  have kp := kp.up u5 (by simp)
  have g_columns := gs_ne fm g_columns (by decide)
  have g_thrown := gs_ne fm g_thrown (by decide)
  have g_rows := gs_ne fm g_rows (by decide)
  have g_pending := gs_eq fm hlen (by decide)
  have mu := mu.setF fm (by decide)
  have hlen := gs_len fm hlen
  refine x_aload_n C d_Mo_clear_15 rfl rfl ?_
  refine x_iconst (v := 0) C d_Mo_clear_16 (by decide) ?_
  refine x_put C k_Mo f_Mo_130 d_Mo_clear_17 fm (by rfl) (by rfl) (by rfl) (by omega) rfl (fun h6 u6 => ?_)
  have fco := xUp_ne u6 fco (by first | assumption | exact Ne.symm (by assumption) | exact x_ne fco fm (by simp))
  have fm := xUp_at u6
  have kp := kp.up u6 (by simp)
  have g_columns := gs_ne fm g_columns (by decide)
  have g_thrown := gs_ne fm g_thrown (by decide)
  have g_rows := gs_ne fm g_rows (by decide)
  have g_pending := gs_ne fm g_pending (by decide)
  have g_there := gs_eq fm hlen (by decide)
  have mu := mu.setF fm (by decide)
  have hlen := gs_len fm hlen
  refine x_iconst (v := 0) C d_Mo_clear_20 (by decide) ?_
  refine x_istore_n (lv' := [(1, _), (0, _)]) C d_Mo_clear_21 rfl (by decide) (by rfl) ?_
  exact loop 11 0 _ _ c (by omega) (by omega) fm mu fco kp lt_0 g_thrown g_rows g_pending g_there
set_option maxRecDepth 20000 in
set_option maxHeartbeats 1000000 in
theorem m_Mo_rowsN {V : xV} {h : xH} {m : Nat} {fs : List Value} (fm : h m = some (.inr (8, fs))) (hlen : fs.length = 29) (t : Int32) (ht : t < 0 ∨ 9 < t) : xM V y_Mo_rows b_Mo_rows 4 (some .int) 1 [.ref m, .int t] h 0 0 (fun v h' => v = some (.int 0) ∧ ∃ fs', h' m = some (.inr (8, fs')) ∧ mUp [0] fs fs' ∧ xKeep [m] h h' ∧ fs'[0]? = some (.int 1)) := by
  refine xM_of false (by decide) (fun h => nomatch h) (Nat.le_of_ble_eq_true rfl) (fun K C => ?_)
  show K 0 0 h 0 [(0, .ref m), (1, .int t)] []
  have kp : xKeep [m] h h := xKeep.rf
  have mu : mUp [0] fs fs := mUp.rf
  have hno : (!decide (t < 0) && !decide (9 < t)) = false := by rcases ht with z | z; rw [decide_eq_true z]; rfl; rw [decide_eq_true z]; simp
  refine x_aload_n C d_Mo_rows_0 rfl rfl ?_
  refine x_iload_n C d_Mo_rows_1 rfl rfl ?_
  refine x_i2l C d_Mo_rows_2 ?_
  refine x_lconst (v := 0) C d_Mo_rows_3 (by decide) ?_
  refine x_ldc2 C q_Mo_41 d_Mo_rows_4 ?_
  refine x_callS C l_Mo_37 v_Mo_in d_Mo_rows_7 (m_Mo_in t.toInt64 0 9) (by rfl) (by rfl) (by decide) (by decide) (Nat.le_of_ble_eq_true rfl) ?_
  rintro v9 h9 ⟨rfl, rfl⟩
  rw [lc_in (a := 0) (b := 9) (by decide) (by decide), hno]
  refine x_if_eq (tgt := 17) C d_Mo_rows_10 rfl (fun q10 => ?_) (fun q10 => ?_)
  · skip
    replace q10 := bI_f q10
    refine x_iconst (v := 1) C d_Mo_rows_17 (by decide) ?_
    refine x_put C k_Mo f_Mo_31 d_Mo_rows_18 fm (by rfl) (by rfl) (by rfl) (by omega) rfl (fun h1 u1 => ?_)
    have fm := xUp_at u1
    have kp := kp.up u1 (by simp)
    have g_thrown := gs_eq fm hlen (by decide)
    have mu := mu.setF fm (by decide)
    have hlen := gs_len fm hlen
    refine x_aload_n C d_Mo_rows_21 rfl rfl ?_
    refine x_get C k_Mo f_Mo_31 d_Mo_rows_22 fm g_thrown ?_
    refine x_if_le (tgt := 30) C d_Mo_rows_25 rfl (fun q25 => ?_) (fun q25 => ?_)
    · skip
      exact absurd q25 (by decide)
    · skip
      refine x_iconst (v := 0) C d_Mo_rows_28 (by decide) ?_
      refine x_iret C d_Mo_rows_29 ?_
      exact ⟨rfl, _, fm, mu, kp, g_thrown⟩
  · skip
    replace q10 := bI_t q10
    exact absurd q10 (by decide)
set_option maxRecDepth 20000 in
set_option maxHeartbeats 1000000 in
theorem m_Mo_rows {V : xV} {h : xH} {mof mco N t : Nat} {of c : Nat → Int32} {m : Nat} {fs : List Value} (fm : h m = some (.inr (8, fs))) (hlen : fs.length = 29) (g_of : fs[2]? = some (.ref mof)) (g_columns : fs[1]? = some (.ref mco)) (g_rows : fs[4]? = some (.int (nI N))) (fof : h mof = some (xI V 400 of)) (fco : h mco = some (xI V 10 c)) (hN : N ≤ 400) (ht : t < 10) : xM V y_Mo_rows b_Mo_rows 4 (some .int) 1 [.ref m, .int (nI t)] h 0 0 (fun v h' => ∃ fs', h' m = some (.inr (8, fs')) ∧ mUp [0] fs fs' ∧ xKeep [m] h h' ∧ fs'[0]? = some (.int 0) ∧ v = some (.int (if c t ≤ 0 then -1 else nI (((List.range N).filter (fun k => decide (of k = nI t))).length)))) := by
  refine xM_of false (by decide) (fun h => nomatch h) (Nat.le_of_ble_eq_true rfl) (fun K C => ?_)
  show K 0 0 h 0 [(0, .ref m), (1, .int (nI t))] []
  have kp : xKeep [m] h h := xKeep.rf
  have mu : mUp [0] fs fs := mUp.rf
  have hyes : (!decide (nI t < 0) && !decide (9 < nI t)) = true := by rw [decide_eq_false (nI_pos (by omega)), decide_eq_false (show ¬ 9 < nI t from nI_nlt (a := 9) (by omega) (by omega))]; rfl
  have loop : ∀ mq : Nat, ∀ (i : Nat) (h1 : xH) (fs1 : List Value), N - i < mq → i ≤ N → h1 m = some (.inr (8, fs1)) → mUp [0] fs fs1 → h1 mof = some (xI V 400 of) → h1 mco = some (xI V 10 c) → xKeep [m] h h1 → fs1[0]? = some (.int 0) → K 0 0 h1 34 [(3, .int (nI i)), (2, .int (nI (((List.range i).filter (fun k => decide (of k = nI t))).length))), (0, .ref m), (1, .int (nI t))] [] := by
    intro mq
    induction mq with
    | zero => intro i h1 fs1 hm hi fm mu fof fco kp g_thrown; omega
    | succ mq ih =>
      intro i h1 fs1 hm hi fm mu fof fco kp g_thrown
      have hlen := mu.1.trans hlen
      have g_of := mu.get g_of (by decide)
      have g_columns := mu.get g_columns (by decide)
      have g_rows := mu.get g_rows (by decide)
      refine x_iload_n C d_Mo_rows_34 rfl rfl ?_
      refine x_aload_n C d_Mo_rows_35 rfl rfl ?_
      refine x_get C k_Mo f_Mo_159 d_Mo_rows_36 fm g_rows ?_
      refine x_icmp_ge (tgt := 66) C d_Mo_rows_39 rfl (fun q39 => ?_) (fun q39 => ?_)
      · skip
        have hi2 : i = N := by have := nge_of q39 (by omega); omega
        refine x_aload_n C d_Mo_rows_66 rfl rfl ?_
        refine x_iload_n C d_Mo_rows_67 rfl rfl ?_
        refine x_callV C l_Mo_101 v_Mo_isThere d_Mo_rows_68 (m_Mo_isThere (t := t) fm hlen g_columns fco ht) fm rfl (by rfl) (by rfl) (by decide) (by decide) (Nat.le_of_ble_eq_true rfl) ?_
        rintro v9 h9 ⟨rfl, rfl⟩
        refine x_if_eq (tgt := 78) C d_Mo_rows_71 rfl (fun q71 => ?_) (fun q71 => ?_)
        · skip
          replace q71 := bI_f q71
          refine x_iconst (v := -1) C d_Mo_rows_78 (by decide) ?_
          refine x_iret C d_Mo_rows_79 ?_
          refine ⟨_, fm, mu, kp, g_thrown, congrArg (fun z => some (Value.int z)) ?_⟩
          rw [← hi2]
          first | (rw [if_pos (by simpa using q71)]; done) | (rw [if_neg (by simpa using q71)]; done)
        · skip
          replace q71 := bI_t q71
          refine x_iload_n C d_Mo_rows_74 rfl rfl ?_
          refine x_goto (tgt := 79) C d_Mo_rows_75 rfl ?_
          refine x_iret C d_Mo_rows_79 ?_
          refine ⟨_, fm, mu, kp, g_thrown, congrArg (fun z => some (Value.int z)) ?_⟩
          rw [← hi2]
          first | (rw [if_pos (by simpa using q71)]; done) | (rw [if_neg (by simpa using q71)]; done)
      · skip
        have hi2 := nlt_of q39 (by omega) (by omega)
        refine x_iload_n C d_Mo_rows_42 rfl rfl ?_
        refine x_aload_n C d_Mo_rows_43 rfl rfl ?_
        refine x_get C k_Mo f_Mo_13 d_Mo_rows_44 fm g_of ?_
        refine x_iload_n C d_Mo_rows_47 rfl rfl ?_
        refine x_iald C d_Mo_rows_48 fof (vp_in_nI (by omega) (by decide)) ?_
        rw [nI_clamp (by omega)]
        refine x_iload_n C d_Mo_rows_49 rfl rfl ?_
        refine x_icmp_ne (tgt := 57) C d_Mo_rows_50 rfl (fun q50 => ?_) (fun q50 => ?_)
        · skip
          refine x_iconst (v := 0) C d_Mo_rows_57 (by decide) ?_
          refine x_iadd C d_Mo_rows_58 ?_
          refine x_istore_n (lv' := [(2, _), (3, _), (0, _), (1, _)]) C d_Mo_rows_59 rfl (by decide) (by rfl) ?_
          refine x_iinc (v := nI (i + 1)) (k0 := 1) (lv' := [(3, _), (2, _), (0, _), (1, _)]) C d_Mo_rows_60 (by rfl) (nI_1 i) (by decide) (by rfl) ?_
          refine x_goto (tgt := 34) C d_Mo_rows_63 rfl ?_
          have hz := ih (i + 1) _ _ (by omega) (by omega) fm mu fof fco kp g_thrown
          rw [List.range_succ, List.filter_append, List.length_append] at hz
          first | (rw [List.filter_cons_of_neg (by rw [decide_eq_false q50]; decide)] at hz; rw [Int32.add_zero]; exact hz) | (rw [List.filter_cons_of_pos (by rw [decide_eq_true q50])] at hz; rw [nI_1]; exact hz)
        · skip
          refine x_iconst (v := 1) C d_Mo_rows_53 (by decide) ?_
          refine x_goto (tgt := 58) C d_Mo_rows_54 rfl ?_
          refine x_iadd C d_Mo_rows_58 ?_
          refine x_istore_n (lv' := [(2, _), (3, _), (0, _), (1, _)]) C d_Mo_rows_59 rfl (by decide) (by rfl) ?_
          refine x_iinc (v := nI (i + 1)) (k0 := 1) (lv' := [(3, _), (2, _), (0, _), (1, _)]) C d_Mo_rows_60 (by rfl) (nI_1 i) (by decide) (by rfl) ?_
          refine x_goto (tgt := 34) C d_Mo_rows_63 rfl ?_
          have hz := ih (i + 1) _ _ (by omega) (by omega) fm mu fof fco kp g_thrown
          rw [List.range_succ, List.filter_append, List.length_append] at hz
          first | (rw [List.filter_cons_of_neg (by rw [decide_eq_false q50]; decide)] at hz; rw [Int32.add_zero]; exact hz) | (rw [List.filter_cons_of_pos (by rw [decide_eq_true q50])] at hz; rw [nI_1]; exact hz)
  refine x_aload_n C d_Mo_rows_0 rfl rfl ?_
  refine x_iload_n C d_Mo_rows_1 rfl rfl ?_
  refine x_i2l C d_Mo_rows_2 ?_
  refine x_lconst (v := 0) C d_Mo_rows_3 (by decide) ?_
  refine x_ldc2 C q_Mo_41 d_Mo_rows_4 ?_
  refine x_callS C l_Mo_37 v_Mo_in d_Mo_rows_7 (m_Mo_in (nI t).toInt64 0 9) (by rfl) (by rfl) (by decide) (by decide) (Nat.le_of_ble_eq_true rfl) ?_
  rintro v9 h9 ⟨rfl, rfl⟩
  rw [lc_in (a := 0) (b := 9) (by decide) (by decide), hyes]
  refine x_if_eq (tgt := 17) C d_Mo_rows_10 rfl (fun q10 => ?_) (fun q10 => ?_)
  · skip
    replace q10 := bI_f q10
    exact absurd q10 (by decide)
  · skip
    replace q10 := bI_t q10
    refine x_iconst (v := 0) C d_Mo_rows_13 (by decide) ?_
    refine x_goto (tgt := 18) C d_Mo_rows_14 rfl ?_
    refine x_put C k_Mo f_Mo_31 d_Mo_rows_18 fm (by rfl) (by rfl) (by rfl) (by omega) rfl (fun h1 u1 => ?_)
    have fof := xUp_ne u1 fof (by first | assumption | exact Ne.symm (by assumption) | exact x_ne fof fm (by simp))
    have fco := xUp_ne u1 fco (by first | assumption | exact Ne.symm (by assumption) | exact x_ne fco fm (by simp))
    have fm := xUp_at u1
    have kp := kp.up u1 (by simp)
    have g_of := gs_ne fm g_of (by decide)
    have g_columns := gs_ne fm g_columns (by decide)
    have g_rows := gs_ne fm g_rows (by decide)
    have g_thrown := gs_eq fm hlen (by decide)
    have mu := mu.setF fm (by decide)
    have hlen := gs_len fm hlen
    refine x_aload_n C d_Mo_rows_21 rfl rfl ?_
    refine x_get C k_Mo f_Mo_31 d_Mo_rows_22 fm g_thrown ?_
    refine x_if_le (tgt := 30) C d_Mo_rows_25 rfl (fun q25 => ?_) (fun q25 => ?_)
    · skip
      refine x_iconst (v := 0) C d_Mo_rows_30 (by decide) ?_
      refine x_istore_n (lv' := [(2, _), (0, _), (1, _)]) C d_Mo_rows_31 rfl (by decide) (by rfl) ?_
      refine x_iconst (v := 0) C d_Mo_rows_32 (by decide) ?_
      refine x_istore_n (lv' := [(3, _), (2, _), (0, _), (1, _)]) C d_Mo_rows_33 rfl (by decide) (by rfl) ?_
      exact loop (N + 1) 0 _ _ (by omega) (by omega) fm mu fof fco kp g_thrown
    · skip
      exact absurd q25 (by decide)
set_option maxRecDepth 20000 in
set_option maxHeartbeats 1000000 in
theorem m_Mo_init {V : xV} {h : xH} {m : Nat} {fs : List Value} (fm : h m = some (.inr (8, fs))) (hlen : fs.length = 29) : xM V y_Mo_init b_Mo_init 1 none 1 [.ref m] h 7 3050 (fun v h' => v = none ∧ ∃ fs' mco mof mce mki mnu mhk mhn, h' m = some (.inr (8, fs')) ∧ mUp [1, 2, 3, 5, 6, 8, 9] fs fs' ∧ fs'[1]? = some (.ref mco) ∧ fs'[2]? = some (.ref mof) ∧ fs'[3]? = some (.ref mce) ∧ fs'[5]? = some (.ref mki) ∧ fs'[6]? = some (.ref mnu) ∧ fs'[8]? = some (.ref mhk) ∧ fs'[9]? = some (.ref mhn) ∧ h' mco = some (xI V 10 (fun _ => 0)) ∧ h' mof = some (xI V 400 (fun _ => 0)) ∧ h' mce = some (xI V 2400 (fun _ => 0)) ∧ h' mki = some (xI V 60 (fun _ => 0)) ∧ h' mnu = some (xI V 60 (fun _ => 0)) ∧ h' mhk = some (xI V 60 (fun _ => 0)) ∧ h' mhn = some (xI V 60 (fun _ => 0)) ∧ mki ≠ mnu ∧ mhk ≠ mki ∧ mhk ≠ mnu ∧ mhn ≠ mki ∧ mhn ≠ mnu ∧ mhk ≠ mhn ∧ xKeep [m] h h' ∧ h mco = none ∧ h mof = none ∧ h mce = none ∧ h mki = none ∧ h mnu = none ∧ h mhk = none ∧ h mhn = none) := by
  refine xM_of true (by decide) (fun _ => rfl) (Nat.le_of_ble_eq_true rfl) (fun K C => ?_)
  show K 7 3050 h 0 [(0, .ref m)] []
  have kp : xKeep [m] h h := xKeep.rf
  have mu : mUp [1, 2, 3, 5, 6, 8, 9] fs fs := mUp.rf
  refine x_aload_n C d_Mo_init_0 rfl rfl ?_
  refine x_objInit C ⟨l_Mo_1, oi_i, oi_c⟩ (by decide) (Nat.le_of_ble_eq_true rfl) d_Mo_init_1 ?_
  refine x_aload_n C d_Mo_init_4 rfl rfl ?_
  refine x_bipush (v := 10) C d_Mo_init_5 (by decide) ?_
  refine x_newI (N := 10) C ac_int d_Mo_init_7 (by decide) (by decide) (by decide) (fun mco h1 n1 u1 => ?_)
  have x1_m := x_nn fm n1
  have fm := xUp_new u1 n1 fm
  have z_mco := kp.isn n1 (by simp only [List.mem_cons, List.not_mem_nil, or_false, not_or]; exact Ne.symm x1_m)
  have kp := kp.upN u1 z_mco
  have f_mco := xUp_at u1
  refine x_putF C k_Mo g_Mo_7 d_Mo_init_9 fm (by rfl) (by rfl) (by rfl) (by omega) rfl (fun h2 u2 => ?_)
  have f_mco := xUp_ne u2 f_mco (by first | assumption | exact Ne.symm (by assumption) | exact x_ne f_mco fm (by simp))
  have fm := xUp_at u2
  have kp := kp.up u2 (by simp)
  have g_columns := gs_eq fm hlen (by decide)
  have mu := mu.setF fm (by decide)
  have hlen := gs_len fm hlen
  refine x_aload_n C d_Mo_init_12 rfl rfl ?_
  refine x_sipush (v := 400) C d_Mo_init_13 (by decide) ?_
  refine x_newI (N := 400) C ac_int d_Mo_init_16 (by decide) (by decide) (by decide) (fun mof h3 n3 u3 => ?_)
  have x3_m := x_nn fm n3
  have x3_mco := x_nn f_mco n3
  have fm := xUp_new u3 n3 fm
  have f_mco := xUp_new u3 n3 f_mco
  have z_mof := kp.isn n3 (by simp only [List.mem_cons, List.not_mem_nil, or_false, not_or]; exact Ne.symm x3_m)
  have kp := kp.upN u3 z_mof
  have f_mof := xUp_at u3
  refine x_putF C k_Mo g_Mo_13 d_Mo_init_18 fm (by rfl) (by rfl) (by rfl) (by omega) rfl (fun h4 u4 => ?_)
  have f_mco := xUp_ne u4 f_mco (by first | assumption | exact Ne.symm (by assumption) | exact x_ne f_mco fm (by simp))
  have f_mof := xUp_ne u4 f_mof (by first | assumption | exact Ne.symm (by assumption) | exact x_ne f_mof fm (by simp))
  have fm := xUp_at u4
  have kp := kp.up u4 (by simp)
  have g_columns := gs_ne fm g_columns (by decide)
  have g_of := gs_eq fm hlen (by decide)
  have mu := mu.setF fm (by decide)
  have hlen := gs_len fm hlen
  refine x_aload_n C d_Mo_init_21 rfl rfl ?_
  refine x_sipush (v := 2400) C d_Mo_init_22 (by decide) ?_
  refine x_newI (N := 2400) C ac_int d_Mo_init_25 (by decide) (by decide) (by decide) (fun mce h5 n5 u5 => ?_)
  have x5_m := x_nn fm n5
  have x5_mco := x_nn f_mco n5
  have x5_mof := x_nn f_mof n5
  have fm := xUp_new u5 n5 fm
  have f_mco := xUp_new u5 n5 f_mco
  have f_mof := xUp_new u5 n5 f_mof
  have z_mce := kp.isn n5 (by simp only [List.mem_cons, List.not_mem_nil, or_false, not_or]; exact Ne.symm x5_m)
  have kp := kp.upN u5 z_mce
  have f_mce := xUp_at u5
  refine x_putF C k_Mo g_Mo_16 d_Mo_init_27 fm (by rfl) (by rfl) (by rfl) (by omega) rfl (fun h6 u6 => ?_)
  have f_mco := xUp_ne u6 f_mco (by first | assumption | exact Ne.symm (by assumption) | exact x_ne f_mco fm (by simp))
  have f_mof := xUp_ne u6 f_mof (by first | assumption | exact Ne.symm (by assumption) | exact x_ne f_mof fm (by simp))
  have f_mce := xUp_ne u6 f_mce (by first | assumption | exact Ne.symm (by assumption) | exact x_ne f_mce fm (by simp))
  have fm := xUp_at u6
  have kp := kp.up u6 (by simp)
  have g_columns := gs_ne fm g_columns (by decide)
  have g_of := gs_ne fm g_of (by decide)
  have g_cells := gs_eq fm hlen (by decide)
  have mu := mu.setF fm (by decide)
  have hlen := gs_len fm hlen
  refine x_aload_n C d_Mo_init_30 rfl rfl ?_
  refine x_bipush (v := 60) C d_Mo_init_31 (by decide) ?_
  refine x_newI (N := 60) C ac_int d_Mo_init_33 (by decide) (by decide) (by decide) (fun mki h7 n7 u7 => ?_)
  have x7_m := x_nn fm n7
  have x7_mco := x_nn f_mco n7
  have x7_mof := x_nn f_mof n7
  have x7_mce := x_nn f_mce n7
  have fm := xUp_new u7 n7 fm
  have f_mco := xUp_new u7 n7 f_mco
  have f_mof := xUp_new u7 n7 f_mof
  have f_mce := xUp_new u7 n7 f_mce
  have z_mki := kp.isn n7 (by simp only [List.mem_cons, List.not_mem_nil, or_false, not_or]; exact Ne.symm x7_m)
  have kp := kp.upN u7 z_mki
  have f_mki := xUp_at u7
  refine x_putF C k_Mo g_Mo_19 d_Mo_init_35 fm (by rfl) (by rfl) (by rfl) (by omega) rfl (fun h8 u8 => ?_)
  have f_mco := xUp_ne u8 f_mco (by first | assumption | exact Ne.symm (by assumption) | exact x_ne f_mco fm (by simp))
  have f_mof := xUp_ne u8 f_mof (by first | assumption | exact Ne.symm (by assumption) | exact x_ne f_mof fm (by simp))
  have f_mce := xUp_ne u8 f_mce (by first | assumption | exact Ne.symm (by assumption) | exact x_ne f_mce fm (by simp))
  have f_mki := xUp_ne u8 f_mki (by first | assumption | exact Ne.symm (by assumption) | exact x_ne f_mki fm (by simp))
  have fm := xUp_at u8
  have kp := kp.up u8 (by simp)
  have g_columns := gs_ne fm g_columns (by decide)
  have g_of := gs_ne fm g_of (by decide)
  have g_cells := gs_ne fm g_cells (by decide)
  have g_kinds := gs_eq fm hlen (by decide)
  have mu := mu.setF fm (by decide)
  have hlen := gs_len fm hlen
  refine x_aload_n C d_Mo_init_38 rfl rfl ?_
  refine x_bipush (v := 60) C d_Mo_init_39 (by decide) ?_
  refine x_newI (N := 60) C ac_int d_Mo_init_41 (by decide) (by decide) (by decide) (fun mnu h9 n9 u9 => ?_)
  have x9_m := x_nn fm n9
  have x9_mco := x_nn f_mco n9
  have x9_mof := x_nn f_mof n9
  have x9_mce := x_nn f_mce n9
  have x9_mki := x_nn f_mki n9
  have fm := xUp_new u9 n9 fm
  have f_mco := xUp_new u9 n9 f_mco
  have f_mof := xUp_new u9 n9 f_mof
  have f_mce := xUp_new u9 n9 f_mce
  have f_mki := xUp_new u9 n9 f_mki
  have z_mnu := kp.isn n9 (by simp only [List.mem_cons, List.not_mem_nil, or_false, not_or]; exact Ne.symm x9_m)
  have kp := kp.upN u9 z_mnu
  have f_mnu := xUp_at u9
  refine x_putF C k_Mo g_Mo_22 d_Mo_init_43 fm (by rfl) (by rfl) (by rfl) (by omega) rfl (fun h10 u10 => ?_)
  have f_mco := xUp_ne u10 f_mco (by first | assumption | exact Ne.symm (by assumption) | exact x_ne f_mco fm (by simp))
  have f_mof := xUp_ne u10 f_mof (by first | assumption | exact Ne.symm (by assumption) | exact x_ne f_mof fm (by simp))
  have f_mce := xUp_ne u10 f_mce (by first | assumption | exact Ne.symm (by assumption) | exact x_ne f_mce fm (by simp))
  have f_mki := xUp_ne u10 f_mki (by first | assumption | exact Ne.symm (by assumption) | exact x_ne f_mki fm (by simp))
  have f_mnu := xUp_ne u10 f_mnu (by first | assumption | exact Ne.symm (by assumption) | exact x_ne f_mnu fm (by simp))
  have fm := xUp_at u10
  have kp := kp.up u10 (by simp)
  have g_columns := gs_ne fm g_columns (by decide)
  have g_of := gs_ne fm g_of (by decide)
  have g_cells := gs_ne fm g_cells (by decide)
  have g_kinds := gs_ne fm g_kinds (by decide)
  have g_numbers := gs_eq fm hlen (by decide)
  have mu := mu.setF fm (by decide)
  have hlen := gs_len fm hlen
  refine x_aload_n C d_Mo_init_46 rfl rfl ?_
  refine x_bipush (v := 60) C d_Mo_init_47 (by decide) ?_
  refine x_newI (N := 60) C ac_int d_Mo_init_49 (by decide) (by decide) (by decide) (fun mhk h11 n11 u11 => ?_)
  have x11_m := x_nn fm n11
  have x11_mco := x_nn f_mco n11
  have x11_mof := x_nn f_mof n11
  have x11_mce := x_nn f_mce n11
  have x11_mki := x_nn f_mki n11
  have x11_mnu := x_nn f_mnu n11
  have fm := xUp_new u11 n11 fm
  have f_mco := xUp_new u11 n11 f_mco
  have f_mof := xUp_new u11 n11 f_mof
  have f_mce := xUp_new u11 n11 f_mce
  have f_mki := xUp_new u11 n11 f_mki
  have f_mnu := xUp_new u11 n11 f_mnu
  have z_mhk := kp.isn n11 (by simp only [List.mem_cons, List.not_mem_nil, or_false, not_or]; exact Ne.symm x11_m)
  have kp := kp.upN u11 z_mhk
  have f_mhk := xUp_at u11
  refine x_putF C k_Mo g_Mo_25 d_Mo_init_51 fm (by rfl) (by rfl) (by rfl) (by omega) rfl (fun h12 u12 => ?_)
  have f_mco := xUp_ne u12 f_mco (by first | assumption | exact Ne.symm (by assumption) | exact x_ne f_mco fm (by simp))
  have f_mof := xUp_ne u12 f_mof (by first | assumption | exact Ne.symm (by assumption) | exact x_ne f_mof fm (by simp))
  have f_mce := xUp_ne u12 f_mce (by first | assumption | exact Ne.symm (by assumption) | exact x_ne f_mce fm (by simp))
  have f_mki := xUp_ne u12 f_mki (by first | assumption | exact Ne.symm (by assumption) | exact x_ne f_mki fm (by simp))
  have f_mnu := xUp_ne u12 f_mnu (by first | assumption | exact Ne.symm (by assumption) | exact x_ne f_mnu fm (by simp))
  have f_mhk := xUp_ne u12 f_mhk (by first | assumption | exact Ne.symm (by assumption) | exact x_ne f_mhk fm (by simp))
  have fm := xUp_at u12
  have kp := kp.up u12 (by simp)
  have g_columns := gs_ne fm g_columns (by decide)
  have g_of := gs_ne fm g_of (by decide)
  have g_cells := gs_ne fm g_cells (by decide)
  have g_kinds := gs_ne fm g_kinds (by decide)
  have g_numbers := gs_ne fm g_numbers (by decide)
  have g_hadKinds := gs_eq fm hlen (by decide)
  have mu := mu.setF fm (by decide)
  have hlen := gs_len fm hlen
  refine x_aload_n C d_Mo_init_54 rfl rfl ?_
  refine x_bipush (v := 60) C d_Mo_init_55 (by decide) ?_
  refine x_newI (N := 60) C ac_int d_Mo_init_57 (by decide) (by decide) (by decide) (fun mhn h13 n13 u13 => ?_)
  have x13_m := x_nn fm n13
  have x13_mco := x_nn f_mco n13
  have x13_mof := x_nn f_mof n13
  have x13_mce := x_nn f_mce n13
  have x13_mki := x_nn f_mki n13
  have x13_mnu := x_nn f_mnu n13
  have x13_mhk := x_nn f_mhk n13
  have fm := xUp_new u13 n13 fm
  have f_mco := xUp_new u13 n13 f_mco
  have f_mof := xUp_new u13 n13 f_mof
  have f_mce := xUp_new u13 n13 f_mce
  have f_mki := xUp_new u13 n13 f_mki
  have f_mnu := xUp_new u13 n13 f_mnu
  have f_mhk := xUp_new u13 n13 f_mhk
  have z_mhn := kp.isn n13 (by simp only [List.mem_cons, List.not_mem_nil, or_false, not_or]; exact Ne.symm x13_m)
  have kp := kp.upN u13 z_mhn
  have f_mhn := xUp_at u13
  refine x_putF C k_Mo g_Mo_28 d_Mo_init_59 fm (by rfl) (by rfl) (by rfl) (by omega) rfl (fun h14 u14 => ?_)
  have f_mco := xUp_ne u14 f_mco (by first | assumption | exact Ne.symm (by assumption) | exact x_ne f_mco fm (by simp))
  have f_mof := xUp_ne u14 f_mof (by first | assumption | exact Ne.symm (by assumption) | exact x_ne f_mof fm (by simp))
  have f_mce := xUp_ne u14 f_mce (by first | assumption | exact Ne.symm (by assumption) | exact x_ne f_mce fm (by simp))
  have f_mki := xUp_ne u14 f_mki (by first | assumption | exact Ne.symm (by assumption) | exact x_ne f_mki fm (by simp))
  have f_mnu := xUp_ne u14 f_mnu (by first | assumption | exact Ne.symm (by assumption) | exact x_ne f_mnu fm (by simp))
  have f_mhk := xUp_ne u14 f_mhk (by first | assumption | exact Ne.symm (by assumption) | exact x_ne f_mhk fm (by simp))
  have f_mhn := xUp_ne u14 f_mhn (by first | assumption | exact Ne.symm (by assumption) | exact x_ne f_mhn fm (by simp))
  have fm := xUp_at u14
  have kp := kp.up u14 (by simp)
  have g_columns := gs_ne fm g_columns (by decide)
  have g_of := gs_ne fm g_of (by decide)
  have g_cells := gs_ne fm g_cells (by decide)
  have g_kinds := gs_ne fm g_kinds (by decide)
  have g_numbers := gs_ne fm g_numbers (by decide)
  have g_hadKinds := gs_ne fm g_hadKinds (by decide)
  have g_hadNumbers := gs_eq fm hlen (by decide)
  have mu := mu.setF fm (by decide)
  have hlen := gs_len fm hlen
  refine x_vret C d_Mo_init_62 ?_
  exact ⟨rfl, _, mco, mof, mce, mki, mnu, mhk, mhn, fm, mu, g_columns, g_of, g_cells, g_kinds, g_numbers, g_hadKinds, g_hadNumbers, f_mco, f_mof, f_mce, f_mki, f_mnu, f_mhk, f_mhn, by assumption, by first | assumption | exact Ne.symm (by assumption), by first | assumption | exact Ne.symm (by assumption), by first | assumption | exact Ne.symm (by assumption), by first | assumption | exact Ne.symm (by assumption), by first | assumption | exact Ne.symm (by assumption), kp, z_mco, z_mof, z_mce, z_mki, z_mnu, z_mhk, z_mhn⟩
