/-! CursorBaseModel: selects, width -/
set_option maxRecDepth 20000 in
set_option maxHeartbeats 1000000 in
theorem m_Mo_selectsR {V : xV} {h : xH} {mhk mhn mof mce N n1 n2 i j fr T bb kc : Nat} {hk hn of f : Nat → Int32} {p1 p2 : Nat → Nat} {fl a1 a2 aT bT gn : Int32} {m : Nat} {fs : List Value} (fm : h m = some (.inr (8, fs))) (hlen : fs.length = 29) (g_hadKinds : fs[8]? = some (.ref mhk)) (g_hadNumbers : fs[9]? = some (.ref mhn)) (g_of : fs[2]? = some (.ref mof)) (g_cells : fs[3]? = some (.ref mce)) (g_rows : fs[4]? = some (.int (nI N))) (g_falls : fs[16]? = some (.int fl)) (g_first : fs[12]? = some (.int a1)) (g_second : fs[13]? = some (.int a2)) (g_from : fs[14]? = some (.int (nI fr))) (g_to : fs[15]? = some (.int (nI T))) (g_at : fs[19]? = some (.int aT)) (g_beside : fs[20]? = some (.int bT)) (g_given : fs[18]? = some (.int gn)) (fhk : h mhk = some (xI V 60 hk)) (fhn : h mhn = some (xI V 60 hn)) (fof : h mof = some (xI V 400 of)) (fce : h mce = some (xI V 2400 f)) (hN : N ≤ 400) (hFT : mFT fr T bb kc) (htk : mToks hk hn a2 fr kc) (ho1 : ordS of (fun k => f (k * 6)) fl N a1 n1 p1) (h2 : (a2 = -1 ∧ n2 = 1) ∨ (¬ a2 = -1 ∧ ordS of (fun k => f (k * 6)) fl N a2 n2 p2)) (hc : mCur a2 p1 p2 n1 n2 i j aT bT) (hfo : ¬ (hk 1 = 0 ∧ ¬ hn 1 = 4)) : xM V y_Mo_selects b_Mo_selects 2 (some .int) 3 [.ref m] h 0 0 (fun v h' => ∃ fs', h' m = some (.inr (8, fs')) ∧ mUp [17, 18, 19, 20, 21] fs fs' ∧ xKeep [m] h h' ∧ ((v = some (.int 0) ∧ bad (fun a b => mHR hk hn fr kc (row6 f (p1 a * 6)) (row6 f (p2 b * 6))) n1 n2 i j n1 0 ∧ fs'[17]? = some (.int 1) ∧ fs'[21]? = some (.int 0) ∧ fs'[18]? = some (.int gn) ∧ ∃ aT' bT', fs'[19]? = some (.int aT') ∧ fs'[20]? = some (.int bT')) ∨ ∃ i' j' aT' bT', v = some (.int 1) ∧ i' < n1 ∧ j' < n2 ∧ bhd i j i' j' ∧ bad (fun a b => mHR hk hn fr kc (row6 f (p1 a * 6)) (row6 f (p2 b * 6))) n1 n2 i j i' j' ∧ (fun a b => mHR hk hn fr kc (row6 f (p1 a * 6)) (row6 f (p2 b * 6))) i' j' = true ∧ mCur a2 p1 p2 n1 n2 i' (j' + 1) aT' bT' ∧ fs'[19]? = some (.int aT') ∧ fs'[20]? = some (.int bT') ∧ fs'[17]? = some (.int 0) ∧ fs'[21]? = some (.int 1) ∧ fs'[18]? = some (.int (gn + 1)))) := by
  refine xM_of false (by decide) (fun h => nomatch h) (Nat.le_of_ble_eq_true rfl) (fun K C => ?_)
  show K 0 0 h 0 [(0, .ref m)] []
  have kp : xKeep [m] h h := xKeep.rf
  have mu : mUp [17, 18, 19, 20, 21] fs fs := mUp.rf
  have hp1 : ∀ k, k < n1 → p1 k < 400 := fun k hk => ho1.lt hN hk
  have hp2 : ¬ a2 = -1 → ∀ k, k < n2 → p2 k < 400 := fun z k hk => by rcases h2 with y | y; exact absurd y.1 z; exact y.2.lt hN hk
  have loop : ∀ mq : Nat, ∀ (b : Bool) (i1 j1 pm : Nat) (h1 : xH) (fs1 : List Value) (aT1 bT1 : Int32), pm < mq → h1 m = some (.inr (8, fs1)) → mUp [17, 18, 19, 20, 21] fs fs1 → h1 mhk = some (xI V 60 hk) → h1 mhn = some (xI V 60 hn) → h1 mof = some (xI V 400 of) → h1 mce = some (xI V 2400 f) → xKeep [m] h h1 → fs1[19]? = some (.int aT1) → fs1[20]? = some (.int bT1) → fs1[18]? = some (.int gn) → ((b = false ∧ bad (fun a b => mHR hk hn fr kc (row6 f (p1 a * 6)) (row6 f (p2 b * 6))) n1 n2 i j n1 0) ∨ (b = true ∧ i1 < n1 ∧ j1 < n2 ∧ bhd i j i1 j1 ∧ bad (fun a b => mHR hk hn fr kc (row6 f (p1 a * 6)) (row6 f (p2 b * 6))) n1 n2 i j i1 j1 ∧ mCur a2 p1 p2 n1 n2 i1 (j1 + 1) aT1 bT1 ∧ n1 * n2 ≤ i1 * n2 + j1 + pm)) → K 0 0 h1 38 [(1, .int (bI b)), (0, .ref m)] [] := by
    intro mq
    induction mq with
    | zero => intro b i1 j1 pm h1 fs1 aT1 bT1 hm fm mu fhk fhn fof fce kp g_at g_beside g_given hI; omega
    | succ mq ih =>
      intro b i1 j1 pm h1 fs1 aT1 bT1 hm fm mu fhk fhn fof fce kp g_at g_beside g_given hI
      have hlen := mu.1.trans hlen
      have g_hadKinds := mu.get g_hadKinds (by decide)
      have g_hadNumbers := mu.get g_hadNumbers (by decide)
      have g_of := mu.get g_of (by decide)
      have g_cells := mu.get g_cells (by decide)
      have g_rows := mu.get g_rows (by decide)
      have g_falls := mu.get g_falls (by decide)
      have g_first := mu.get g_first (by decide)
      have g_second := mu.get g_second (by decide)
      have g_from := mu.get g_from (by decide)
      have g_to := mu.get g_to (by decide)
      refine x_iload_n C d_Mo_selects_38 rfl rfl ?_
      refine x_if_eq (tgt := 65) C d_Mo_selects_39 rfl (fun q39 => ?_) (fun q39 => ?_)
      · skip
        have hbf := bI_f q39
        subst hbf
        have hbad := (Or.resolve_right hI (fun z => absurd z.1 (by decide))).2
        refine x_aload_n C d_Mo_selects_65 rfl rfl ?_
        refine x_iload_n C d_Mo_selects_66 rfl rfl ?_
        refine x_if_eq (tgt := 74) C d_Mo_selects_67 rfl (fun q67 => ?_) (fun q67 => ?_)
        · skip
          refine x_iconst (v := 1) C d_Mo_selects_74 (by decide) ?_
          refine x_put C k_Mo f_Mo_136 d_Mo_selects_75 fm (by rfl) (by rfl) (by rfl) (by omega) rfl (fun h1 u1 => ?_)
          have fhk := xUp_ne u1 fhk (by first | assumption | exact Ne.symm (by assumption) | exact x_ne fhk fm (by simp))
          have fhn := xUp_ne u1 fhn (by first | assumption | exact Ne.symm (by assumption) | exact x_ne fhn fm (by simp))
          have fof := xUp_ne u1 fof (by first | assumption | exact Ne.symm (by assumption) | exact x_ne fof fm (by simp))
          have fce := xUp_ne u1 fce (by first | assumption | exact Ne.symm (by assumption) | exact x_ne fce fm (by simp))
          have fm := xUp_at u1
          have kp := kp.up u1 (by simp)
          have g_hadKinds := gs_ne fm g_hadKinds (by decide)
          have g_hadNumbers := gs_ne fm g_hadNumbers (by decide)
          have g_of := gs_ne fm g_of (by decide)
          have g_cells := gs_ne fm g_cells (by decide)
          have g_rows := gs_ne fm g_rows (by decide)
          have g_falls := gs_ne fm g_falls (by decide)
          have g_first := gs_ne fm g_first (by decide)
          have g_second := gs_ne fm g_second (by decide)
          have g_from := gs_ne fm g_from (by decide)
          have g_to := gs_ne fm g_to (by decide)
          have g_at := gs_ne fm g_at (by decide)
          have g_beside := gs_ne fm g_beside (by decide)
          have g_given := gs_ne fm g_given (by decide)
          have g_state := gs_eq fm hlen (by decide)
          have mu := mu.setF fm (by decide)
          have hlen := gs_len fm hlen
          refine x_aload_n C d_Mo_selects_78 rfl rfl ?_
          refine x_iload_n C d_Mo_selects_79 rfl rfl ?_
          refine x_put C k_Mo f_Mo_148 d_Mo_selects_80 fm (by rfl) (by rfl) (by rfl) (by omega) rfl (fun h2 u2 => ?_)
          have fhk := xUp_ne u2 fhk (by first | assumption | exact Ne.symm (by assumption) | exact x_ne fhk fm (by simp))
          have fhn := xUp_ne u2 fhn (by first | assumption | exact Ne.symm (by assumption) | exact x_ne fhn fm (by simp))
          have fof := xUp_ne u2 fof (by first | assumption | exact Ne.symm (by assumption) | exact x_ne fof fm (by simp))
          have fce := xUp_ne u2 fce (by first | assumption | exact Ne.symm (by assumption) | exact x_ne fce fm (by simp))
          have fm := xUp_at u2
          have kp := kp.up u2 (by simp)
          have g_hadKinds := gs_ne fm g_hadKinds (by decide)
          have g_hadNumbers := gs_ne fm g_hadNumbers (by decide)
          have g_of := gs_ne fm g_of (by decide)
          have g_cells := gs_ne fm g_cells (by decide)
          have g_rows := gs_ne fm g_rows (by decide)
          have g_falls := gs_ne fm g_falls (by decide)
          have g_first := gs_ne fm g_first (by decide)
          have g_second := gs_ne fm g_second (by decide)
          have g_from := gs_ne fm g_from (by decide)
          have g_to := gs_ne fm g_to (by decide)
          have g_at := gs_ne fm g_at (by decide)
          have g_beside := gs_ne fm g_beside (by decide)
          have g_given := gs_ne fm g_given (by decide)
          have g_state := gs_ne fm g_state (by decide)
          have g_row := gs_eq fm hlen (by decide)
          have mu := mu.setF fm (by decide)
          have hlen := gs_len fm hlen
          refine x_aload_n C d_Mo_selects_83 rfl rfl ?_
          refine x_dup C d_Mo_selects_84 rfl ?_
          refine x_get C k_Mo f_Mo_139 d_Mo_selects_85 fm g_given ?_
          refine x_iload_n C d_Mo_selects_88 rfl rfl ?_
          refine x_if_eq (tgt := 96) C d_Mo_selects_89 rfl (fun q89 => ?_) (fun q89 => ?_)
          · skip
            refine x_iconst (v := 0) C d_Mo_selects_96 (by decide) ?_
            refine x_iadd C d_Mo_selects_97 ?_
            refine x_put C k_Mo f_Mo_139 d_Mo_selects_98 fm (by rfl) (by rfl) (by rfl) (by omega) rfl (fun h3 u3 => ?_)
            have fhk := xUp_ne u3 fhk (by first | assumption | exact Ne.symm (by assumption) | exact x_ne fhk fm (by simp))
            have fhn := xUp_ne u3 fhn (by first | assumption | exact Ne.symm (by assumption) | exact x_ne fhn fm (by simp))
            have fof := xUp_ne u3 fof (by first | assumption | exact Ne.symm (by assumption) | exact x_ne fof fm (by simp))
            have fce := xUp_ne u3 fce (by first | assumption | exact Ne.symm (by assumption) | exact x_ne fce fm (by simp))
            have fm := xUp_at u3
            have kp := kp.up u3 (by simp)
            have g_hadKinds := gs_ne fm g_hadKinds (by decide)
            have g_hadNumbers := gs_ne fm g_hadNumbers (by decide)
            have g_of := gs_ne fm g_of (by decide)
            have g_cells := gs_ne fm g_cells (by decide)
            have g_rows := gs_ne fm g_rows (by decide)
            have g_falls := gs_ne fm g_falls (by decide)
            have g_first := gs_ne fm g_first (by decide)
            have g_second := gs_ne fm g_second (by decide)
            have g_from := gs_ne fm g_from (by decide)
            have g_to := gs_ne fm g_to (by decide)
            have g_at := gs_ne fm g_at (by decide)
            have g_beside := gs_ne fm g_beside (by decide)
            have g_state := gs_ne fm g_state (by decide)
            have g_row := gs_ne fm g_row (by decide)
            have g_given := gs_eq fm hlen (by decide)
            have mu := mu.setF fm (by decide)
            have hlen := gs_len fm hlen
            refine x_iload_n C d_Mo_selects_101 rfl rfl ?_
            refine x_if_eq (tgt := 109) C d_Mo_selects_102 rfl (fun q102 => ?_) (fun q102 => ?_)
            · skip
              refine x_iconst (v := 0) C d_Mo_selects_109 (by decide) ?_
              refine x_iret C d_Mo_selects_110 ?_
              exact ⟨_, fm, mu, kp, Or.inl ⟨rfl, hbad, g_state, g_row, by rw [g_given, Int32.add_zero], _, _, g_at, g_beside⟩⟩
            · skip
              exact absurd rfl q102
          · skip
            exact absurd rfl q89
        · skip
          exact absurd rfl q67
      · skip
        have hbt := bI_t q39
        subst hbt
        obtain ⟨-, hi1, hj1, hbh, hbd, hcu, hpm⟩ := Or.resolve_left hI (fun z => absurd z.1 (by decide))
        refine x_aload_n C d_Mo_selects_42 rfl rfl ?_
        refine x_aload_n C d_Mo_selects_43 rfl rfl ?_
        refine x_get C k_Mo f_Mo_142 d_Mo_selects_44 fm g_at ?_
        refine x_aload_n C d_Mo_selects_47 rfl rfl ?_
        refine x_get C k_Mo f_Mo_145 d_Mo_selects_48 fm g_beside ?_
        refine x_callV C l_Mo_168 v_Mo_holds d_Mo_selects_51 (m_Mo_holds (a := p1 i1) (b := p2 j1) fm hlen g_hadKinds g_hadNumbers g_cells fhk fhn fce g_from g_to hFT.2.2.2.2 hFT.2.1 hFT.2.2.1 hFT.2.2.2.1 (fun j hj => ⟨(htk j hj).1.at_pair hcu hp1 hp2, (htk j hj).2.at_pair hcu hp1 hp2⟩)) fm rfl (by rfl) (by rfl) (by decide) (by decide) (Nat.le_of_ble_eq_true rfl) ?_
        rintro v9 h9 ⟨rfl, rfl⟩
        rw [mHR_eq htk]
        refine x_if_ne (tgt := 65) C d_Mo_selects_54 rfl (fun q54 => ?_) (fun q54 => ?_)
        · skip
          replace q54 := bI_t q54
          refine x_aload_n C d_Mo_selects_65 rfl rfl ?_
          refine x_iload_n C d_Mo_selects_66 rfl rfl ?_
          refine x_if_eq (tgt := 74) C d_Mo_selects_67 rfl (fun q67 => ?_) (fun q67 => ?_)
          · skip
            exact absurd q67 (by decide)
          · skip
            refine x_iconst (v := 0) C d_Mo_selects_70 (by decide) ?_
            refine x_goto (tgt := 75) C d_Mo_selects_71 rfl ?_
            refine x_put C k_Mo f_Mo_136 d_Mo_selects_75 fm (by rfl) (by rfl) (by rfl) (by omega) rfl (fun h4 u4 => ?_)
            have fhk := xUp_ne u4 fhk (by first | assumption | exact Ne.symm (by assumption) | exact x_ne fhk fm (by simp))
            have fhn := xUp_ne u4 fhn (by first | assumption | exact Ne.symm (by assumption) | exact x_ne fhn fm (by simp))
            have fof := xUp_ne u4 fof (by first | assumption | exact Ne.symm (by assumption) | exact x_ne fof fm (by simp))
            have fce := xUp_ne u4 fce (by first | assumption | exact Ne.symm (by assumption) | exact x_ne fce fm (by simp))
            have fm := xUp_at u4
            have kp := kp.up u4 (by simp)
            have g_hadKinds := gs_ne fm g_hadKinds (by decide)
            have g_hadNumbers := gs_ne fm g_hadNumbers (by decide)
            have g_of := gs_ne fm g_of (by decide)
            have g_cells := gs_ne fm g_cells (by decide)
            have g_rows := gs_ne fm g_rows (by decide)
            have g_falls := gs_ne fm g_falls (by decide)
            have g_first := gs_ne fm g_first (by decide)
            have g_second := gs_ne fm g_second (by decide)
            have g_from := gs_ne fm g_from (by decide)
            have g_to := gs_ne fm g_to (by decide)
            have g_at := gs_ne fm g_at (by decide)
            have g_beside := gs_ne fm g_beside (by decide)
            have g_given := gs_ne fm g_given (by decide)
            have g_state := gs_eq fm hlen (by decide)
            have mu := mu.setF fm (by decide)
            have hlen := gs_len fm hlen
            refine x_aload_n C d_Mo_selects_78 rfl rfl ?_
            refine x_iload_n C d_Mo_selects_79 rfl rfl ?_
            refine x_put C k_Mo f_Mo_148 d_Mo_selects_80 fm (by rfl) (by rfl) (by rfl) (by omega) rfl (fun h5 u5 => ?_)
            have fhk := xUp_ne u5 fhk (by first | assumption | exact Ne.symm (by assumption) | exact x_ne fhk fm (by simp))
            have fhn := xUp_ne u5 fhn (by first | assumption | exact Ne.symm (by assumption) | exact x_ne fhn fm (by simp))
            have fof := xUp_ne u5 fof (by first | assumption | exact Ne.symm (by assumption) | exact x_ne fof fm (by simp))
            have fce := xUp_ne u5 fce (by first | assumption | exact Ne.symm (by assumption) | exact x_ne fce fm (by simp))
            have fm := xUp_at u5
            have kp := kp.up u5 (by simp)
            have g_hadKinds := gs_ne fm g_hadKinds (by decide)
            have g_hadNumbers := gs_ne fm g_hadNumbers (by decide)
            have g_of := gs_ne fm g_of (by decide)
            have g_cells := gs_ne fm g_cells (by decide)
            have g_rows := gs_ne fm g_rows (by decide)
            have g_falls := gs_ne fm g_falls (by decide)
            have g_first := gs_ne fm g_first (by decide)
            have g_second := gs_ne fm g_second (by decide)
            have g_from := gs_ne fm g_from (by decide)
            have g_to := gs_ne fm g_to (by decide)
            have g_at := gs_ne fm g_at (by decide)
            have g_beside := gs_ne fm g_beside (by decide)
            have g_given := gs_ne fm g_given (by decide)
            have g_state := gs_ne fm g_state (by decide)
            have g_row := gs_eq fm hlen (by decide)
            have mu := mu.setF fm (by decide)
            have hlen := gs_len fm hlen
            refine x_aload_n C d_Mo_selects_83 rfl rfl ?_
            refine x_dup C d_Mo_selects_84 rfl ?_
            refine x_get C k_Mo f_Mo_139 d_Mo_selects_85 fm g_given ?_
            refine x_iload_n C d_Mo_selects_88 rfl rfl ?_
            refine x_if_eq (tgt := 96) C d_Mo_selects_89 rfl (fun q89 => ?_) (fun q89 => ?_)
            · skip
              exact absurd q89 (by decide)
            · skip
              refine x_iconst (v := 1) C d_Mo_selects_92 (by decide) ?_
              refine x_goto (tgt := 97) C d_Mo_selects_93 rfl ?_
              refine x_iadd C d_Mo_selects_97 ?_
              refine x_put C k_Mo f_Mo_139 d_Mo_selects_98 fm (by rfl) (by rfl) (by rfl) (by omega) rfl (fun h6 u6 => ?_)
              have fhk := xUp_ne u6 fhk (by first | assumption | exact Ne.symm (by assumption) | exact x_ne fhk fm (by simp))
              have fhn := xUp_ne u6 fhn (by first | assumption | exact Ne.symm (by assumption) | exact x_ne fhn fm (by simp))
              have fof := xUp_ne u6 fof (by first | assumption | exact Ne.symm (by assumption) | exact x_ne fof fm (by simp))
              have fce := xUp_ne u6 fce (by first | assumption | exact Ne.symm (by assumption) | exact x_ne fce fm (by simp))
              have fm := xUp_at u6
              have kp := kp.up u6 (by simp)
              have g_hadKinds := gs_ne fm g_hadKinds (by decide)
              have g_hadNumbers := gs_ne fm g_hadNumbers (by decide)
              have g_of := gs_ne fm g_of (by decide)
              have g_cells := gs_ne fm g_cells (by decide)
              have g_rows := gs_ne fm g_rows (by decide)
              have g_falls := gs_ne fm g_falls (by decide)
              have g_first := gs_ne fm g_first (by decide)
              have g_second := gs_ne fm g_second (by decide)
              have g_from := gs_ne fm g_from (by decide)
              have g_to := gs_ne fm g_to (by decide)
              have g_at := gs_ne fm g_at (by decide)
              have g_beside := gs_ne fm g_beside (by decide)
              have g_state := gs_ne fm g_state (by decide)
              have g_row := gs_ne fm g_row (by decide)
              have g_given := gs_eq fm hlen (by decide)
              have mu := mu.setF fm (by decide)
              have hlen := gs_len fm hlen
              refine x_iload_n C d_Mo_selects_101 rfl rfl ?_
              refine x_if_eq (tgt := 109) C d_Mo_selects_102 rfl (fun q102 => ?_) (fun q102 => ?_)
              · skip
                exact absurd q102 (by decide)
              · skip
                refine x_iconst (v := 1) C d_Mo_selects_105 (by decide) ?_
                refine x_goto (tgt := 110) C d_Mo_selects_106 rfl ?_
                refine x_iret C d_Mo_selects_110 ?_
                exact ⟨_, fm, mu, kp, Or.inr ⟨i1, j1, aT1, bT1, rfl, hi1, hj1, hbh, hbd, q54, hcu, g_at, g_beside, g_state, g_row, g_given⟩⟩
        · skip
          replace q54 := bI_f q54
          refine x_aload_n C d_Mo_selects_57 rfl rfl ?_
          refine x_callV C l_Mo_182 v_Mo_moves d_Mo_selects_58 (m_Mo_moves fm hlen g_of g_cells g_rows g_falls g_first g_second g_at g_beside fof fce hN ho1 h2 hcu) fm rfl (by rfl) (by rfl) (by decide) (by decide) (Nat.le_of_ble_eq_true rfl) ?_
          rintro v7 h7 ⟨fs7, aT9, bT9, fm', mu7, g7_at, g7_beside, kp7, (⟨rfl, hx9⟩ | ⟨i9, j9, rfl, hx9, hc9⟩)⟩
          · skip
            have fhk := kp7.get fhk (nm_c (by first | assumption | exact Ne.symm (by assumption) | exact x_ne fhk fm (by simp)) nm_n)
            have fhn := kp7.get fhn (nm_c (by first | assumption | exact Ne.symm (by assumption) | exact x_ne fhn fm (by simp)) nm_n)
            have fof := kp7.get fof (nm_c (by first | assumption | exact Ne.symm (by assumption) | exact x_ne fof fm (by simp)) nm_n)
            have fce := kp7.get fce (nm_c (by first | assumption | exact Ne.symm (by assumption) | exact x_ne fce fm (by simp)) nm_n)
            have kp := kp.call kp7 (kc_c (Or.inl (by simp)) kc_n)
            have fm := fm'
            have hlen := mu7.1.trans hlen
            have g_hadKinds := mu7.get g_hadKinds (by decide)
            have g_hadNumbers := mu7.get g_hadNumbers (by decide)
            have g_of := mu7.get g_of (by decide)
            have g_cells := mu7.get g_cells (by decide)
            have g_rows := mu7.get g_rows (by decide)
            have g_falls := mu7.get g_falls (by decide)
            have g_first := mu7.get g_first (by decide)
            have g_second := mu7.get g_second (by decide)
            have g_from := mu7.get g_from (by decide)
            have g_to := mu7.get g_to (by decide)
            have g_given := mu7.get g_given (by decide)
            have g_at := g7_at
            have g_beside := g7_beside
            have mu := mu.tr mu7 (by decide)
            refine x_istore_n (lv' := [(1, _), (0, _)]) C d_Mo_selects_61 rfl (by decide) (by rfl) ?_
            refine x_goto (tgt := 38) C d_Mo_selects_62 rfl ?_
            have hg9 : (fun a b => mHR hk hn fr kc (row6 f (p1 a * 6)) (row6 f (p2 b * 6))) i1 j1 = false := q54
            have hps := pos_lt hi1 hj1
            first | exact ih false 0 0 0 _ _ _ _ (by omega) fm mu fhk fhn fof fce kp g_at g_beside g_given (Or.inl ⟨rfl, bad_end hbd hg9 (nx2_end hi1 hj1 hx9).1 (nx2_end hi1 hj1 hx9).2⟩) | (obtain ⟨x1, x2, x3, x4, x5⟩ := nx2_next hi1 hj1 hx9; exact ih true i9 j9 (pm - 1) _ _ _ _ (by omega) fm mu fhk fhn fof fce kp g_at g_beside g_given (Or.inr ⟨rfl, x1, x2, hbh.tr x4, bad_next hbd hg9 x5, hc9, by omega⟩))
          · skip
            have fhk := kp7.get fhk (nm_c (by first | assumption | exact Ne.symm (by assumption) | exact x_ne fhk fm (by simp)) nm_n)
            have fhn := kp7.get fhn (nm_c (by first | assumption | exact Ne.symm (by assumption) | exact x_ne fhn fm (by simp)) nm_n)
            have fof := kp7.get fof (nm_c (by first | assumption | exact Ne.symm (by assumption) | exact x_ne fof fm (by simp)) nm_n)
            have fce := kp7.get fce (nm_c (by first | assumption | exact Ne.symm (by assumption) | exact x_ne fce fm (by simp)) nm_n)
            have kp := kp.call kp7 (kc_c (Or.inl (by simp)) kc_n)
            have fm := fm'
            have hlen := mu7.1.trans hlen
            have g_hadKinds := mu7.get g_hadKinds (by decide)
            have g_hadNumbers := mu7.get g_hadNumbers (by decide)
            have g_of := mu7.get g_of (by decide)
            have g_cells := mu7.get g_cells (by decide)
            have g_rows := mu7.get g_rows (by decide)
            have g_falls := mu7.get g_falls (by decide)
            have g_first := mu7.get g_first (by decide)
            have g_second := mu7.get g_second (by decide)
            have g_from := mu7.get g_from (by decide)
            have g_to := mu7.get g_to (by decide)
            have g_given := mu7.get g_given (by decide)
            have g_at := g7_at
            have g_beside := g7_beside
            have mu := mu.tr mu7 (by decide)
            refine x_istore_n (lv' := [(1, _), (0, _)]) C d_Mo_selects_61 rfl (by decide) (by rfl) ?_
            refine x_goto (tgt := 38) C d_Mo_selects_62 rfl ?_
            have hg9 : (fun a b => mHR hk hn fr kc (row6 f (p1 a * 6)) (row6 f (p2 b * 6))) i1 j1 = false := q54
            have hps := pos_lt hi1 hj1
            first | exact ih false 0 0 0 _ _ _ _ (by omega) fm mu fhk fhn fof fce kp g_at g_beside g_given (Or.inl ⟨rfl, bad_end hbd hg9 (nx2_end hi1 hj1 hx9).1 (nx2_end hi1 hj1 hx9).2⟩) | (obtain ⟨x1, x2, x3, x4, x5⟩ := nx2_next hi1 hj1 hx9; exact ih true i9 j9 (pm - 1) _ _ _ _ (by omega) fm mu fhk fhn fof fce kp g_at g_beside g_given (Or.inr ⟨rfl, x1, x2, hbh.tr x4, bad_next hbd hg9 x5, hc9, by omega⟩))
  refine x_aload_n C d_Mo_selects_0 rfl rfl ?_
  refine x_callV C l_Mo_176 v_Mo_isFold d_Mo_selects_1 (m_Mo_isFold fm hlen g_hadKinds g_hadNumbers fhk fhn) fm rfl (by rfl) (by rfl) (by decide) (by decide) (Nat.le_of_ble_eq_true rfl) ?_
  rintro v9 h9 ⟨rfl, rfl⟩
  refine x_if_eq (tgt := 33) C d_Mo_selects_4 rfl (fun q4 => ?_) (fun q4 => ?_)
  · skip
    replace q4 := bI_f q4
    refine x_aload_n C d_Mo_selects_33 rfl rfl ?_
    refine x_callV C l_Mo_182 v_Mo_moves d_Mo_selects_34 (m_Mo_moves fm hlen g_of g_cells g_rows g_falls g_first g_second g_at g_beside fof fce hN ho1 h2 hc) fm rfl (by rfl) (by rfl) (by decide) (by decide) (Nat.le_of_ble_eq_true rfl) ?_
    rintro v8 h8 ⟨fs8, aT9, bT9, fm', mu8, g8_at, g8_beside, kp8, (⟨rfl, hx9⟩ | ⟨i9, j9, rfl, hx9, hc9⟩)⟩
    · skip
      have fhk := kp8.get fhk (nm_c (by first | assumption | exact Ne.symm (by assumption) | exact x_ne fhk fm (by simp)) nm_n)
      have fhn := kp8.get fhn (nm_c (by first | assumption | exact Ne.symm (by assumption) | exact x_ne fhn fm (by simp)) nm_n)
      have fof := kp8.get fof (nm_c (by first | assumption | exact Ne.symm (by assumption) | exact x_ne fof fm (by simp)) nm_n)
      have fce := kp8.get fce (nm_c (by first | assumption | exact Ne.symm (by assumption) | exact x_ne fce fm (by simp)) nm_n)
      have kp := kp.call kp8 (kc_c (Or.inl (by simp)) kc_n)
      have fm := fm'
      have hlen := mu8.1.trans hlen
      have g_hadKinds := mu8.get g_hadKinds (by decide)
      have g_hadNumbers := mu8.get g_hadNumbers (by decide)
      have g_of := mu8.get g_of (by decide)
      have g_cells := mu8.get g_cells (by decide)
      have g_rows := mu8.get g_rows (by decide)
      have g_falls := mu8.get g_falls (by decide)
      have g_first := mu8.get g_first (by decide)
      have g_second := mu8.get g_second (by decide)
      have g_from := mu8.get g_from (by decide)
      have g_to := mu8.get g_to (by decide)
      have g_given := mu8.get g_given (by decide)
      have g_at := g8_at
      have g_beside := g8_beside
      have mu := mu.tr mu8 (by decide)
      refine x_istore_n (lv' := [(1, _), (0, _)]) C d_Mo_selects_37 rfl (by decide) (by rfl) ?_
      first | exact loop 1 false 0 0 0 _ _ _ _ (by omega) fm mu fhk fhn fof fce kp g_at g_beside g_given (Or.inl ⟨rfl, bad_none hx9⟩) | (obtain ⟨x1, x2, x3, x4⟩ := nx2_first hc hx9; exact loop (n1 * n2 + 1) true i9 j9 (n1 * n2) _ _ _ _ (by omega) fm mu fhk fhn fof fce kp g_at g_beside g_given (Or.inr ⟨rfl, x1, x2, x3, bad_first x4, hc9, by omega⟩))
    · skip
      have fhk := kp8.get fhk (nm_c (by first | assumption | exact Ne.symm (by assumption) | exact x_ne fhk fm (by simp)) nm_n)
      have fhn := kp8.get fhn (nm_c (by first | assumption | exact Ne.symm (by assumption) | exact x_ne fhn fm (by simp)) nm_n)
      have fof := kp8.get fof (nm_c (by first | assumption | exact Ne.symm (by assumption) | exact x_ne fof fm (by simp)) nm_n)
      have fce := kp8.get fce (nm_c (by first | assumption | exact Ne.symm (by assumption) | exact x_ne fce fm (by simp)) nm_n)
      have kp := kp.call kp8 (kc_c (Or.inl (by simp)) kc_n)
      have fm := fm'
      have hlen := mu8.1.trans hlen
      have g_hadKinds := mu8.get g_hadKinds (by decide)
      have g_hadNumbers := mu8.get g_hadNumbers (by decide)
      have g_of := mu8.get g_of (by decide)
      have g_cells := mu8.get g_cells (by decide)
      have g_rows := mu8.get g_rows (by decide)
      have g_falls := mu8.get g_falls (by decide)
      have g_first := mu8.get g_first (by decide)
      have g_second := mu8.get g_second (by decide)
      have g_from := mu8.get g_from (by decide)
      have g_to := mu8.get g_to (by decide)
      have g_given := mu8.get g_given (by decide)
      have g_at := g8_at
      have g_beside := g8_beside
      have mu := mu.tr mu8 (by decide)
      refine x_istore_n (lv' := [(1, _), (0, _)]) C d_Mo_selects_37 rfl (by decide) (by rfl) ?_
      first | exact loop 1 false 0 0 0 _ _ _ _ (by omega) fm mu fhk fhn fof fce kp g_at g_beside g_given (Or.inl ⟨rfl, bad_none hx9⟩) | (obtain ⟨x1, x2, x3, x4⟩ := nx2_first hc hx9; exact loop (n1 * n2 + 1) true i9 j9 (n1 * n2) _ _ _ _ (by omega) fm mu fhk fhn fof fce kp g_at g_beside g_given (Or.inr ⟨rfl, x1, x2, x3, bad_first x4, hc9, by omega⟩))
  · skip
    replace q4 := bI_t q4
    exact absurd (by simpa using q4) hfo
theorem m_Mo_folds {V : xV} {h : xH} {mhk mhn mof mce N fr T bb kc : Nat} {hk hn of f : Nat → Int32} {a1 a2 : Int32} {m : Nat} {fs : List Value} (fm : h m = some (.inr (8, fs))) (hlen : fs.length = 29) (g_hadKinds : fs[8]? = some (.ref mhk)) (g_hadNumbers : fs[9]? = some (.ref mhn)) (g_of : fs[2]? = some (.ref mof)) (g_cells : fs[3]? = some (.ref mce)) (g_rows : fs[4]? = some (.int (nI N))) (g_first : fs[12]? = some (.int a1)) (g_second : fs[13]? = some (.int a2)) (g_from : fs[14]? = some (.int (nI fr))) (g_to : fs[15]? = some (.int (nI T))) (fhk : h mhk = some (xI V 60 hk)) (fhn : h mhn = some (xI V 60 hn)) (fof : h mof = some (xI V 400 of)) (fce : h mce = some (xI V 2400 f)) (hN : N ≤ 400) (hFT : mFT fr T bb kc) (htk : mToks hk hn a2 fr kc) (hsm : hn 1 = 5 ∨ mTok hk hn a2 2) : xM V y_Mo_folds b_Mo_folds 4 none 3 [.ref m] h 0 0 (fun v h' => v = none ∧ ∃ fs', h' m = some (.inr (8, fs')) ∧ mUp [22] fs fs' ∧ xKeep [m] h h' ∧ fs'[22]? = some (.long (mTold hk hn of f a1 a2 fr kc N))) := by
  by_cases h2 : a2 = -1
  · subst h2
    exact m_Mo_folds1 fm hlen g_hadKinds g_hadNumbers g_of g_cells g_rows g_first g_second g_from g_to fhk fhn fof fce hN hFT htk hsm
  · exact m_Mo_folds2 fm hlen g_hadKinds g_hadNumbers g_of g_cells g_rows g_first g_second g_from g_to fhk fhn fof fce hN hFT htk hsm h2
set_option maxRecDepth 20000 in
set_option maxHeartbeats 1000000 in
theorem m_Mo_selectsT {V : xV} {h : xH} {mhk mhn mof mce N fr T bb kc : Nat} {hk hn of f : Nat → Int32} {a1 a2 gn : Int32} {m : Nat} {fs : List Value} (fm : h m = some (.inr (8, fs))) (hlen : fs.length = 29) (g_hadKinds : fs[8]? = some (.ref mhk)) (g_hadNumbers : fs[9]? = some (.ref mhn)) (g_of : fs[2]? = some (.ref mof)) (g_cells : fs[3]? = some (.ref mce)) (g_rows : fs[4]? = some (.int (nI N))) (g_first : fs[12]? = some (.int a1)) (g_second : fs[13]? = some (.int a2)) (g_from : fs[14]? = some (.int (nI fr))) (g_to : fs[15]? = some (.int (nI T))) (g_given : fs[18]? = some (.int gn)) (fhk : h mhk = some (xI V 60 hk)) (fhn : h mhn = some (xI V 60 hn)) (fof : h mof = some (xI V 400 of)) (fce : h mce = some (xI V 2400 f)) (hN : N ≤ 400) (hFT : mFT fr T bb kc) (htk : mToks hk hn a2 fr kc) (hsm : hn 1 = 5 ∨ mTok hk hn a2 2) (hfo : (hk 1 = 0 ∧ ¬ hn 1 = 4)) : xM V y_Mo_selects b_Mo_selects 2 (some .int) 4 [.ref m] h 0 0 (fun v h' => v = some (.int 1) ∧ ∃ fs', h' m = some (.inr (8, fs')) ∧ mUp [17, 18, 21, 22] fs fs' ∧ xKeep [m] h h' ∧ fs'[22]? = some (.long (mTold hk hn of f a1 a2 fr kc N)) ∧ fs'[17]? = some (.int 1) ∧ fs'[21]? = some (.int 1) ∧ fs'[18]? = some (.int (gn + 1))) := by
  refine xM_of false (by decide) (fun h => nomatch h) (Nat.le_of_ble_eq_true rfl) (fun K C => ?_)
  show K 0 0 h 0 [(0, .ref m)] []
  have kp : xKeep [m] h h := xKeep.rf
  have mu : mUp [17, 18, 21, 22] fs fs := mUp.rf
  refine x_aload_n C d_Mo_selects_0 rfl rfl ?_
  refine x_callV C l_Mo_176 v_Mo_isFold d_Mo_selects_1 (m_Mo_isFold fm hlen g_hadKinds g_hadNumbers fhk fhn) fm rfl (by rfl) (by rfl) (by decide) (by decide) (Nat.le_of_ble_eq_true rfl) ?_
  rintro v9 h9 ⟨rfl, rfl⟩
  refine x_if_eq (tgt := 33) C d_Mo_selects_4 rfl (fun q4 => ?_) (fun q4 => ?_)
  · skip
    replace q4 := bI_f q4
    exact absurd q4 (by simp [hfo.1, hfo.2])
  · skip
    replace q4 := bI_t q4
    refine x_aload_n C d_Mo_selects_7 rfl rfl ?_
    refine x_callV C l_Mo_179 v_Mo_folds d_Mo_selects_8 (m_Mo_folds fm hlen g_hadKinds g_hadNumbers g_of g_cells g_rows g_first g_second g_from g_to fhk fhn fof fce hN hFT htk hsm) fm rfl (by rfl) (by rfl) (by decide) (by decide) (Nat.le_of_ble_eq_true rfl) ?_
    rintro v1 h1 ⟨rfl, fs1, fm', mu1, kp1, g1_told⟩
    have fhk := kp1.get fhk (nm_c (by first | assumption | exact Ne.symm (by assumption) | exact x_ne fhk fm (by simp)) nm_n)
    have fhn := kp1.get fhn (nm_c (by first | assumption | exact Ne.symm (by assumption) | exact x_ne fhn fm (by simp)) nm_n)
    have fof := kp1.get fof (nm_c (by first | assumption | exact Ne.symm (by assumption) | exact x_ne fof fm (by simp)) nm_n)
    have fce := kp1.get fce (nm_c (by first | assumption | exact Ne.symm (by assumption) | exact x_ne fce fm (by simp)) nm_n)
    have kp := kp.call kp1 (kc_c (Or.inl (by simp)) kc_n)
    have fm := fm'
    have hlen := mu1.1.trans hlen
    have g_hadKinds := mu1.get g_hadKinds (by decide)
    have g_hadNumbers := mu1.get g_hadNumbers (by decide)
    have g_of := mu1.get g_of (by decide)
    have g_cells := mu1.get g_cells (by decide)
    have g_rows := mu1.get g_rows (by decide)
    have g_first := mu1.get g_first (by decide)
    have g_second := mu1.get g_second (by decide)
    have g_from := mu1.get g_from (by decide)
    have g_to := mu1.get g_to (by decide)
    have g_given := mu1.get g_given (by decide)
    have g_told := g1_told
    have mu := mu.tr mu1 (by decide)
    refine x_aload_n C d_Mo_selects_11 rfl rfl ?_
    refine x_iconst (v := 1) C d_Mo_selects_12 (by decide) ?_
    refine x_put C k_Mo f_Mo_136 d_Mo_selects_13 fm (by rfl) (by rfl) (by rfl) (by omega) rfl (fun h2 u2 => ?_)
    have fhk := xUp_ne u2 fhk (by first | assumption | exact Ne.symm (by assumption) | exact x_ne fhk fm (by simp))
    have fhn := xUp_ne u2 fhn (by first | assumption | exact Ne.symm (by assumption) | exact x_ne fhn fm (by simp))
    have fof := xUp_ne u2 fof (by first | assumption | exact Ne.symm (by assumption) | exact x_ne fof fm (by simp))
    have fce := xUp_ne u2 fce (by first | assumption | exact Ne.symm (by assumption) | exact x_ne fce fm (by simp))
    have fm := xUp_at u2
    have kp := kp.up u2 (by simp)
    have g_hadKinds := gs_ne fm g_hadKinds (by decide)
    have g_hadNumbers := gs_ne fm g_hadNumbers (by decide)
    have g_of := gs_ne fm g_of (by decide)
    have g_cells := gs_ne fm g_cells (by decide)
    have g_rows := gs_ne fm g_rows (by decide)
    have g_first := gs_ne fm g_first (by decide)
    have g_second := gs_ne fm g_second (by decide)
    have g_from := gs_ne fm g_from (by decide)
    have g_to := gs_ne fm g_to (by decide)
    have g_given := gs_ne fm g_given (by decide)
    have g_told := gs_ne fm g_told (by decide)
    have g_state := gs_eq fm hlen (by decide)
    have mu := mu.setF fm (by decide)
    have hlen := gs_len fm hlen
    refine x_aload_n C d_Mo_selects_16 rfl rfl ?_
    refine x_iconst (v := 1) C d_Mo_selects_17 (by decide) ?_
    refine x_put C k_Mo f_Mo_148 d_Mo_selects_18 fm (by rfl) (by rfl) (by rfl) (by omega) rfl (fun h3 u3 => ?_)
    have fhk := xUp_ne u3 fhk (by first | assumption | exact Ne.symm (by assumption) | exact x_ne fhk fm (by simp))
    have fhn := xUp_ne u3 fhn (by first | assumption | exact Ne.symm (by assumption) | exact x_ne fhn fm (by simp))
    have fof := xUp_ne u3 fof (by first | assumption | exact Ne.symm (by assumption) | exact x_ne fof fm (by simp))
    have fce := xUp_ne u3 fce (by first | assumption | exact Ne.symm (by assumption) | exact x_ne fce fm (by simp))
    have fm := xUp_at u3
    have kp := kp.up u3 (by simp)
    have g_hadKinds := gs_ne fm g_hadKinds (by decide)
    have g_hadNumbers := gs_ne fm g_hadNumbers (by decide)
    have g_of := gs_ne fm g_of (by decide)
    have g_cells := gs_ne fm g_cells (by decide)
    have g_rows := gs_ne fm g_rows (by decide)
    have g_first := gs_ne fm g_first (by decide)
    have g_second := gs_ne fm g_second (by decide)
    have g_from := gs_ne fm g_from (by decide)
    have g_to := gs_ne fm g_to (by decide)
    have g_given := gs_ne fm g_given (by decide)
    have g_told := gs_ne fm g_told (by decide)
    have g_state := gs_ne fm g_state (by decide)
    have g_row := gs_eq fm hlen (by decide)
    have mu := mu.setF fm (by decide)
    have hlen := gs_len fm hlen
    refine x_aload_n C d_Mo_selects_21 rfl rfl ?_
    refine x_dup C d_Mo_selects_22 rfl ?_
    refine x_get C k_Mo f_Mo_139 d_Mo_selects_23 fm g_given ?_
    refine x_iconst (v := 1) C d_Mo_selects_26 (by decide) ?_
    refine x_iadd C d_Mo_selects_27 ?_
    refine x_put C k_Mo f_Mo_139 d_Mo_selects_28 fm (by rfl) (by rfl) (by rfl) (by omega) rfl (fun h4 u4 => ?_)
    have fhk := xUp_ne u4 fhk (by first | assumption | exact Ne.symm (by assumption) | exact x_ne fhk fm (by simp))
    have fhn := xUp_ne u4 fhn (by first | assumption | exact Ne.symm (by assumption) | exact x_ne fhn fm (by simp))
    have fof := xUp_ne u4 fof (by first | assumption | exact Ne.symm (by assumption) | exact x_ne fof fm (by simp))
    have fce := xUp_ne u4 fce (by first | assumption | exact Ne.symm (by assumption) | exact x_ne fce fm (by simp))
    have fm := xUp_at u4
    have kp := kp.up u4 (by simp)
    have g_hadKinds := gs_ne fm g_hadKinds (by decide)
    have g_hadNumbers := gs_ne fm g_hadNumbers (by decide)
    have g_of := gs_ne fm g_of (by decide)
    have g_cells := gs_ne fm g_cells (by decide)
    have g_rows := gs_ne fm g_rows (by decide)
    have g_first := gs_ne fm g_first (by decide)
    have g_second := gs_ne fm g_second (by decide)
    have g_from := gs_ne fm g_from (by decide)
    have g_to := gs_ne fm g_to (by decide)
    have g_told := gs_ne fm g_told (by decide)
    have g_state := gs_ne fm g_state (by decide)
    have g_row := gs_ne fm g_row (by decide)
    have g_given := gs_eq fm hlen (by decide)
    have mu := mu.setF fm (by decide)
    have hlen := gs_len fm hlen
    refine x_iconst (v := 1) C d_Mo_selects_31 (by decide) ?_
    refine x_iret C d_Mo_selects_32 ?_
    exact ⟨rfl, _, fm, mu, kp, g_told, g_state, g_row, g_given⟩
set_option maxRecDepth 20000 in
set_option maxHeartbeats 1000000 in
theorem m_Mo_listed {V : xV} {h : xH} {mhk r : Nat} {hk : Nat → Int32} {m : Nat} {fs : List Value} (fm : h m = some (.inr (8, fs))) (hlen : fs.length = 29) (g_hadKinds : fs[8]? = some (.ref mhk)) (fhk : h mhk = some (xI V 60 hk)) (hr : r + 1 < 60) (hl : ∀ j, j < r → hk (1 + j) = 2) (he : ¬ hk (1 + r) = 2) : xM V y_Mo_listed b_Mo_listed 2 (some .int) 0 [.ref m] h 0 0 (fun v h' => h' = h ∧ v = some (.int (nI r))) := by
  refine xM_of false (by decide) (fun h => nomatch h) (Nat.le_of_ble_eq_true rfl) (fun K C => ?_)
  show K 0 0 h 0 [(0, .ref m)] []
  have loop : ∀ mq : Nat, ∀ (i : Nat), r - i < mq → i ≤ r → K 0 0 h 2 [(1, .int (nI i)), (0, .ref m)] [] := by
    intro mq
    induction mq with
    | zero => intro i hm hi; omega
    | succ mq ih =>
      intro i hm hi
      refine x_aload_n C d_Mo_listed_2 rfl rfl ?_
      refine x_get C k_Mo f_Mo_25 d_Mo_listed_3 fm g_hadKinds ?_
      refine x_iconst (v := 1) C d_Mo_listed_6 (by decide) ?_
      refine x_iload_n C d_Mo_listed_7 rfl rfl ?_
      refine x_iadd C d_Mo_listed_8 ?_
      rw [show (1 : Int32) + nI i = nI (1 + i) from nI_add 1 i]
      refine x_iald C d_Mo_listed_9 fhk (vp_in_nI (by omega) (by decide)) ?_
      rw [nI_clamp (by omega)]
      refine x_iconst (v := 2) C d_Mo_listed_10 (by decide) ?_
      refine x_icmp_ne (tgt := 20) C d_Mo_listed_11 rfl (fun q11 => ?_) (fun q11 => ?_)
      · skip
        have hi2 : i = r := by rcases Nat.lt_or_ge i r with z | z; exact absurd (hl i z) q11; omega
        refine x_iload_n C d_Mo_listed_20 rfl rfl ?_
        refine x_iret C d_Mo_listed_21 ?_
        subst hi2
        exact ⟨rfl, rfl⟩
      · skip
        have hi2 : i < r := by rcases Nat.lt_or_ge i r with z | z; exact z; exact absurd (by rw [show r = i by omega]; exact q11) he
        refine x_iinc (v := nI (i + 1)) (k0 := 0) (lv' := [(1, _), (0, _)]) C d_Mo_listed_14 (by rfl) (nI_1 i) (by decide) (by rfl) ?_
        refine x_goto (tgt := 2) C d_Mo_listed_17 rfl ?_
        exact ih (i + 1) (by omega) (by omega)
  refine x_iconst (v := 0) C d_Mo_listed_0 (by decide) ?_
  refine x_istore_n (lv' := [(1, _), (0, _)]) C d_Mo_listed_1 rfl (by decide) (by rfl) ?_
  exact loop (r + 1) 0 (by omega) (by omega)
set_option maxRecDepth 20000 in
set_option maxHeartbeats 1000000 in
theorem m_Mo_wide {V : xV} {h : xH} {mhk mhn mco r : Nat} {hk hn c : Nat → Int32} {a1 a2 : Int32} {m : Nat} {fs : List Value} (fm : h m = some (.inr (8, fs))) (hlen : fs.length = 29) (g_hadKinds : fs[8]? = some (.ref mhk)) (g_hadNumbers : fs[9]? = some (.ref mhn)) (g_columns : fs[1]? = some (.ref mco)) (g_first : fs[12]? = some (.int a1)) (g_second : fs[13]? = some (.int a2)) (fhk : h mhk = some (xI V 60 hk)) (fhn : h mhn = some (xI V 60 hn)) (fco : h mco = some (xI V 10 c)) (hw : hn 0 = 3 → (∃ t, t < 10 ∧ a1 = nI t) ∧ (a2 = -1 ∨ ∃ t, t < 10 ∧ a2 = nI t) ∧ (¬ hk 1 = 0 → r + 1 < 60 ∧ (∀ j, j < r → hk (1 + j) = 2) ∧ ¬ hk (1 + r) = 2)) : xM V y_Mo_wide b_Mo_wide 1 (some .int) 1 [.ref m] h 0 0 (fun v h' => h' = h ∧ v = some (.int (mWide hk hn c a1 a2 r))) := by
  refine xM_of false (by decide) (fun h => nomatch h) (Nat.le_of_ble_eq_true rfl) (fun K C => ?_)
  show K 0 0 h 0 [(0, .ref m)] []
  refine x_aload_n C d_Mo_wide_0 rfl rfl ?_
  refine x_get C k_Mo f_Mo_28 d_Mo_wide_1 fm g_hadNumbers ?_
  refine x_iconst (v := 0) C d_Mo_wide_4 (by decide) ?_
  refine x_iald C d_Mo_wide_5 fhn (vp_in_nI (n := 0) (by decide) (by decide)) ?_
  rw [show (0 : Int32).toNatClampNeg = 0 by decide]
  refine x_iconst (v := 3) C d_Mo_wide_6 (by decide) ?_
  refine x_icmp_eq (tgt := 12) C d_Mo_wide_7 rfl (fun q7 => ?_) (fun q7 => ?_)
  · skip
    obtain ⟨⟨t1, ht1, e1⟩, hw2, hw3⟩ := hw q7
    refine x_aload_n C d_Mo_wide_12 rfl rfl ?_
    refine x_callV C l_Mo_176 v_Mo_isFold d_Mo_wide_13 (m_Mo_isFold fm hlen g_hadKinds g_hadNumbers fhk fhn) fm rfl (by rfl) (by rfl) (by decide) (by decide) (Nat.le_of_ble_eq_true rfl) ?_
    rintro v9 h9 ⟨rfl, rfl⟩
    refine x_if_eq (tgt := 21) C d_Mo_wide_16 rfl (fun q16 => ?_) (fun q16 => ?_)
    · skip
      replace q16 := bI_f q16
      refine x_aload_n C d_Mo_wide_21 rfl rfl ?_
      refine x_get C k_Mo f_Mo_25 d_Mo_wide_22 fm g_hadKinds ?_
      refine x_iconst (v := 1) C d_Mo_wide_25 (by decide) ?_
      refine x_iald C d_Mo_wide_26 fhk (vp_in_nI (n := 1) (by decide) (by decide)) ?_
      rw [show (1 : Int32).toNatClampNeg = 1 by decide]
      refine x_if_ne (tgt := 64) C d_Mo_wide_27 rfl (fun q27 => ?_) (fun q27 => ?_)
      · skip
        refine x_aload_n C d_Mo_wide_64 rfl rfl ?_
        refine x_callV C l_Mo_197 v_Mo_listed d_Mo_wide_65 (m_Mo_listed (r := r) fm hlen g_hadKinds fhk (hw3 q27).1 (hw3 q27).2.1 (hw3 q27).2.2) fm rfl (by rfl) (by rfl) (by decide) (by decide) (Nat.le_of_ble_eq_true rfl) ?_
        rintro v9 h9 ⟨rfl, rfl⟩
        refine x_iret C d_Mo_wide_68 ?_
        refine ⟨rfl, congrArg (fun z => some (Value.int z)) ?_⟩
        unfold mWide
        have q16' : ¬ (hk 1 = 0 ∧ ¬ hn 1 = 4) := by simpa using q16
        rw [if_neg (fun z => z q7), if_neg q16']
        first | (rw [if_neg q27]; done) | (rw [if_pos q27, e1, colOf_nI ht1, if_pos q44]; done) | (rw [if_pos q27, e1, colOf_nI ht1, if_neg q44, e2, colOf_nI ht2]; done)
      · skip
        refine x_aload_n C d_Mo_wide_30 rfl rfl ?_
        refine x_get C k_Mo f_Mo_7 d_Mo_wide_31 fm g_columns ?_
        refine x_aload_n C d_Mo_wide_34 rfl rfl ?_
        refine x_get C k_Mo f_Mo_115 d_Mo_wide_35 fm g_first ?_
        rw [e1]
        refine x_iald C d_Mo_wide_38 fco (vp_in_nI ht1 (by decide)) ?_
        rw [nI_clamp (by omega)]
        refine x_aload_n C d_Mo_wide_39 rfl rfl ?_
        refine x_get C k_Mo f_Mo_118 d_Mo_wide_40 fm g_second ?_
        refine x_iconst (v := -1) C d_Mo_wide_43 (by decide) ?_
        refine x_icmp_ne (tgt := 51) C d_Mo_wide_44 rfl (fun q44 => ?_) (fun q44 => ?_)
        · skip
          obtain ⟨t2, ht2, e2⟩ := hw2.resolve_left q44
          refine x_aload_n C d_Mo_wide_51 rfl rfl ?_
          refine x_get C k_Mo f_Mo_7 d_Mo_wide_52 fm g_columns ?_
          refine x_aload_n C d_Mo_wide_55 rfl rfl ?_
          refine x_get C k_Mo f_Mo_118 d_Mo_wide_56 fm g_second ?_
          rw [e2]
          refine x_iald C d_Mo_wide_59 fco (vp_in_nI ht2 (by decide)) ?_
          try rw [nI_clamp (by omega)]
          refine x_iadd C d_Mo_wide_60 ?_
          refine x_goto (tgt := 68) C d_Mo_wide_61 rfl ?_
          refine x_iret C d_Mo_wide_68 ?_
          refine ⟨rfl, congrArg (fun z => some (Value.int z)) ?_⟩
          unfold mWide
          have q16' : ¬ (hk 1 = 0 ∧ ¬ hn 1 = 4) := by simpa using q16
          rw [if_neg (fun z => z q7), if_neg q16']
          first | (rw [if_neg q27]; done) | (rw [if_pos q27, e1, colOf_nI ht1, if_pos q44]; done) | (rw [if_pos q27, e1, colOf_nI ht1, if_neg q44, e2, colOf_nI ht2]; done)
        · skip
          refine x_iconst (v := 0) C d_Mo_wide_47 (by decide) ?_
          refine x_goto (tgt := 60) C d_Mo_wide_48 rfl ?_
          try rw [nI_clamp (by omega)]
          refine x_iadd C d_Mo_wide_60 ?_
          refine x_goto (tgt := 68) C d_Mo_wide_61 rfl ?_
          refine x_iret C d_Mo_wide_68 ?_
          refine ⟨rfl, congrArg (fun z => some (Value.int z)) ?_⟩
          unfold mWide
          have q16' : ¬ (hk 1 = 0 ∧ ¬ hn 1 = 4) := by simpa using q16
          rw [if_neg (fun z => z q7), if_neg q16']
          first | (rw [if_neg q27]; done) | (rw [if_pos q27, e1, colOf_nI ht1, if_pos q44]; done) | (rw [if_pos q27, e1, colOf_nI ht1, if_neg q44, e2, colOf_nI ht2]; done)
    · skip
      replace q16 := bI_t q16
      refine x_iconst (v := 1) C d_Mo_wide_19 (by decide) ?_
      refine x_iret C d_Mo_wide_20 ?_
      refine ⟨rfl, congrArg (fun z => some (Value.int z)) ?_⟩
      unfold mWide
      have q16' : hk 1 = 0 ∧ ¬ hn 1 = 4 := by simpa using q16
      rw [if_neg (fun z => z q7), if_pos q16']
  · skip
    refine x_iconst (v := 0) C d_Mo_wide_10 (by decide) ?_
    refine x_iret C d_Mo_wide_11 ?_
    refine ⟨rfl, congrArg (fun z => some (Value.int z)) ?_⟩
    unfold mWide
    rw [if_pos q7]
set_option maxRecDepth 20000 in
set_option maxHeartbeats 1000000 in
theorem m_Mo_width {V : xV} {h : xH} {mhk mhn mco r : Nat} {hk hn c : Nat → Int32} {a1 a2 th : Int32} {m : Nat} {fs : List Value} (fm : h m = some (.inr (8, fs))) (hlen : fs.length = 29) (g_there : fs[11]? = some (.int th)) (g_hadKinds : fs[8]? = some (.ref mhk)) (g_hadNumbers : fs[9]? = some (.ref mhn)) (g_columns : fs[1]? = some (.ref mco)) (g_first : fs[12]? = some (.int a1)) (g_second : fs[13]? = some (.int a2)) (fhk : h mhk = some (xI V 60 hk)) (fhn : h mhn = some (xI V 60 hn)) (fco : h mco = some (xI V 10 c)) (hw : ¬ th = 0 → hn 0 = 3 → (∃ t, t < 10 ∧ a1 = nI t) ∧ (a2 = -1 ∨ ∃ t, t < 10 ∧ a2 = nI t) ∧ (¬ hk 1 = 0 → r + 1 < 60 ∧ (∀ j, j < r → hk (1 + j) = 2) ∧ ¬ hk (1 + r) = 2)) : xM V y_Mo_width b_Mo_width 1 (some .int) 2 [.ref m] h 0 0 (fun v h' => ∃ fs', h' m = some (.inr (8, fs')) ∧ mUp [0] fs fs' ∧ xKeep [m] h h' ∧ ((th = 0 ∧ v = some (.int 0) ∧ fs'[0]? = some (.int 1)) ∨ (¬ th = 0 ∧ v = some (.int (mWide hk hn c a1 a2 r)) ∧ fs'[0]? = some (.int 0)))) := by
  refine xM_of false (by decide) (fun h => nomatch h) (Nat.le_of_ble_eq_true rfl) (fun K C => ?_)
  show K 0 0 h 0 [(0, .ref m)] []
  have kp : xKeep [m] h h := xKeep.rf
  have mu : mUp [0] fs fs := mUp.rf
  refine x_aload_n C d_Mo_width_0 rfl rfl ?_
  refine x_aload_n C d_Mo_width_1 rfl rfl ?_
  refine x_get C k_Mo f_Mo_130 d_Mo_width_2 fm g_there ?_
  refine x_if_eq (tgt := 12) C d_Mo_width_5 rfl (fun q5 => ?_) (fun q5 => ?_)
  · skip
    refine x_iconst (v := 1) C d_Mo_width_12 (by decide) ?_
    refine x_put C k_Mo f_Mo_31 d_Mo_width_13 fm (by rfl) (by rfl) (by rfl) (by omega) rfl (fun h1 u1 => ?_)
    have fhk := xUp_ne u1 fhk (by first | assumption | exact Ne.symm (by assumption) | exact x_ne fhk fm (by simp))
    have fhn := xUp_ne u1 fhn (by first | assumption | exact Ne.symm (by assumption) | exact x_ne fhn fm (by simp))
    have fco := xUp_ne u1 fco (by first | assumption | exact Ne.symm (by assumption) | exact x_ne fco fm (by simp))
    have fm := xUp_at u1
    have kp := kp.up u1 (by simp)
    have g_there := gs_ne fm g_there (by decide)
    have g_hadKinds := gs_ne fm g_hadKinds (by decide)
    have g_hadNumbers := gs_ne fm g_hadNumbers (by decide)
    have g_columns := gs_ne fm g_columns (by decide)
    have g_first := gs_ne fm g_first (by decide)
    have g_second := gs_ne fm g_second (by decide)
    have g_thrown := gs_eq fm hlen (by decide)
    have mu := mu.setF fm (by decide)
    have hlen := gs_len fm hlen
    refine x_aload_n C d_Mo_width_16 rfl rfl ?_
    refine x_get C k_Mo f_Mo_130 d_Mo_width_17 fm g_there ?_
    refine x_if_eq (tgt := 30) C d_Mo_width_20 rfl (fun q20 => ?_) (fun q20 => ?_)
    · skip
      refine x_iconst (v := 0) C d_Mo_width_30 (by decide) ?_
      refine x_iret C d_Mo_width_31 ?_
      exact ⟨_, fm, mu, kp, Or.inl ⟨q5, rfl, g_thrown⟩⟩
    · skip
      exact absurd q5 q20
  · skip
    refine x_iconst (v := 0) C d_Mo_width_8 (by decide) ?_
    refine x_goto (tgt := 13) C d_Mo_width_9 rfl ?_
    refine x_put C k_Mo f_Mo_31 d_Mo_width_13 fm (by rfl) (by rfl) (by rfl) (by omega) rfl (fun h2 u2 => ?_)
    have fhk := xUp_ne u2 fhk (by first | assumption | exact Ne.symm (by assumption) | exact x_ne fhk fm (by simp))
    have fhn := xUp_ne u2 fhn (by first | assumption | exact Ne.symm (by assumption) | exact x_ne fhn fm (by simp))
    have fco := xUp_ne u2 fco (by first | assumption | exact Ne.symm (by assumption) | exact x_ne fco fm (by simp))
    have fm := xUp_at u2
    have kp := kp.up u2 (by simp)
    have g_there := gs_ne fm g_there (by decide)
    have g_hadKinds := gs_ne fm g_hadKinds (by decide)
    have g_hadNumbers := gs_ne fm g_hadNumbers (by decide)
    have g_columns := gs_ne fm g_columns (by decide)
    have g_first := gs_ne fm g_first (by decide)
    have g_second := gs_ne fm g_second (by decide)
    have g_thrown := gs_eq fm hlen (by decide)
    have mu := mu.setF fm (by decide)
    have hlen := gs_len fm hlen
    refine x_aload_n C d_Mo_width_16 rfl rfl ?_
    refine x_get C k_Mo f_Mo_130 d_Mo_width_17 fm g_there ?_
    refine x_if_eq (tgt := 30) C d_Mo_width_20 rfl (fun q20 => ?_) (fun q20 => ?_)
    · skip
      exact absurd q20 q5
    · skip
      refine x_aload_n C d_Mo_width_23 rfl rfl ?_
      refine x_callV C l_Mo_200 v_Mo_wide d_Mo_width_24 (m_Mo_wide (r := r) fm hlen g_hadKinds g_hadNumbers g_columns g_first g_second fhk fhn fco (hw q5)) fm rfl (by rfl) (by rfl) (by decide) (by decide) (Nat.le_of_ble_eq_true rfl) ?_
      rintro v9 h9 ⟨rfl, rfl⟩
      refine x_goto (tgt := 31) C d_Mo_width_27 rfl ?_
      refine x_iret C d_Mo_width_31 ?_
      exact ⟨_, fm, mu, kp, Or.inr ⟨q5, rfl, g_thrown⟩⟩
