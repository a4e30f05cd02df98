/-! CursorBaseModel: cursors and statements -/
set_option maxRecDepth 20000 in
set_option maxHeartbeats 1000000 in
theorem m_Mo_moves1 {V : xV} {h : xH} {mof mce N n1 i j : Nat} {of f : Nat → Int32} {p1 p2 : Nat → Nat} {fl a1 aT bT : Int32} {m : Nat} {fs : List Value} (fm : h m = some (.inr (8, fs))) (hlen : fs.length = 29) (g_of : fs[2]? = some (.ref mof)) (g_cells : fs[3]? = some (.ref mce)) (g_rows : fs[4]? = some (.int (nI N))) (g_falls : fs[16]? = some (.int fl)) (g_first : fs[12]? = some (.int a1)) (g_second : fs[13]? = some (.int (-1))) (g_at : fs[19]? = some (.int aT)) (g_beside : fs[20]? = some (.int bT)) (fof : h mof = some (xI V 400 of)) (fce : h mce = some (xI V 2400 f)) (hN : N ≤ 400) (ho1 : ordS of (fun k => f (k * 6)) fl N a1 n1 p1) (hc : mCur (-1) p1 p2 n1 1 i j aT bT) : xM V y_Mo_moves b_Mo_moves 1 (some .boolean) 2 [.ref m] h 0 0 (fun v h' => ∃ fs' aT' bT', h' m = some (.inr (8, fs')) ∧ mUp [19, 20] fs fs' ∧ fs'[19]? = some (.int aT') ∧ fs'[20]? = some (.int bT') ∧ xKeep [m] h h' ∧ ((v = some (.int 0) ∧ nx2 n1 1 i j = none) ∨ ∃ i' j', v = some (.int 1) ∧ nx2 n1 1 i j = some (i', j') ∧ mCur (-1) p1 p2 n1 1 i' (j' + 1) aT' bT')) := by
  refine xM_of false (by decide) (fun h => nomatch h) (Nat.le_of_ble_eq_true rfl) (fun K C => ?_)
  show K 0 0 h 0 [(0, .ref m)] []
  have kp : xKeep [m] h h := xKeep.rf
  have mu : mUp [19, 20] fs fs := mUp.rf
  obtain ⟨⟨ii, r0, hr0, hnx, hx2⟩, hbT⟩ := mv_one ho1 hN hc
  subst hbT
  refine x_aload_n C d_Mo_moves_0 rfl rfl ?_
  refine x_get C k_Mo f_Mo_118 d_Mo_moves_1 fm g_second ?_
  refine x_iconst (v := -1) C d_Mo_moves_4 (by decide) ?_
  refine x_icmp_ne (tgt := 38) C d_Mo_moves_5 rfl (fun q5 => ?_) (fun q5 => ?_)
  · skip
    exact absurd rfl q5
  · skip
    refine x_aload_n C d_Mo_moves_8 rfl rfl ?_
    refine x_aload_n C d_Mo_moves_9 rfl rfl ?_
    refine x_aload_n C d_Mo_moves_10 rfl rfl ?_
    refine x_get C k_Mo f_Mo_115 d_Mo_moves_11 fm g_first ?_
    refine x_aload_n C d_Mo_moves_14 rfl rfl ?_
    refine x_get C k_Mo f_Mo_142 d_Mo_moves_15 fm g_at ?_
    refine x_callV C l_Mo_162 v_Mo_behind d_Mo_moves_18 (m_Mo_behind fm hlen g_of g_cells g_rows fof fce hN g_falls a1 aT (r0 := r0) hr0) fm rfl (by rfl) (by rfl) (by decide) (by decide) (Nat.le_of_ble_eq_true rfl) ?_
    rintro v9 h9 ⟨rfl, x9, rfl, hb9⟩
    have e9 := hnx x9 hb9
    refine x_put C k_Mo f_Mo_142 d_Mo_moves_21 fm (by rfl) (by rfl) (by rfl) (by omega) rfl (fun h1 u1 => ?_)
    have fof := xUp_ne u1 fof (by first | assumption | exact Ne.symm (by assumption) | exact x_ne fof fm (by simp))
    have fce := xUp_ne u1 fce (by first | assumption | exact Ne.symm (by assumption) | exact x_ne fce fm (by simp))
    have fm := xUp_at u1
    have kp := kp.up u1 (by simp)
    have g_of := gs_ne fm g_of (by decide)
    have g_cells := gs_ne fm g_cells (by decide)
    have g_rows := gs_ne fm g_rows (by decide)
    have g_falls := gs_ne fm g_falls (by decide)
    have g_first := gs_ne fm g_first (by decide)
    have g_second := gs_ne fm g_second (by decide)
    have g_beside := gs_ne fm g_beside (by decide)
    have g_at := gs_eq fm hlen (by decide)
    have mu := mu.setF fm (by decide)
    have hlen := gs_len fm hlen
    refine x_aload_n C d_Mo_moves_24 rfl rfl ?_
    refine x_get C k_Mo f_Mo_142 d_Mo_moves_25 fm g_at ?_
    refine x_iconst (v := -1) C d_Mo_moves_28 (by decide) ?_
    refine x_icmp_eq (tgt := 36) C d_Mo_moves_29 rfl (fun q29 => ?_) (fun q29 => ?_)
    · skip
      refine x_iconst (v := 0) C d_Mo_moves_36 (by decide) ?_
      refine x_zret C d_Mo_moves_37 (by rfl) ?_
      first | exact ⟨_, _, _, fm, mu, g_at, g_beside, kp, Or.inl ⟨rfl, by rw [hx2, if_neg (fun z => nxP_ge ho1 hN e9 q29 z.1)]⟩⟩ | exact ⟨_, _, _, fm, mu, g_at, g_beside, kp, Or.inr ⟨ii, 0, rfl, by rw [hx2, if_pos ⟨(nxP_lt e9 q29).1, by omega⟩], mCur.at_pair (nxP_lt e9 q29).1 (by omega) (nxP_lt e9 q29).2 (Or.inl ⟨rfl, rfl⟩)⟩⟩
    · skip
      refine x_iconst (v := 1) C d_Mo_moves_32 (by decide) ?_
      refine x_goto (tgt := 37) C d_Mo_moves_33 rfl ?_
      refine x_zret C d_Mo_moves_37 (by rfl) ?_
      first | exact ⟨_, _, _, fm, mu, g_at, g_beside, kp, Or.inl ⟨rfl, by rw [hx2, if_neg (fun z => nxP_ge ho1 hN e9 q29 z.1)]⟩⟩ | exact ⟨_, _, _, fm, mu, g_at, g_beside, kp, Or.inr ⟨ii, 0, rfl, by rw [hx2, if_pos ⟨(nxP_lt e9 q29).1, by omega⟩], mCur.at_pair (nxP_lt e9 q29).1 (by omega) (nxP_lt e9 q29).2 (Or.inl ⟨rfl, rfl⟩)⟩⟩
set_option maxRecDepth 20000 in
set_option maxHeartbeats 1000000 in
theorem m_Mo_moves2 {V : xV} {h : xH} {mof mce N n1 n2 i j : Nat} {of f : Nat → Int32} {p1 p2 : Nat → Nat} {fl a1 a2 aT bT : Int32} {m : Nat} {fs : List Value} (fm : h m = some (.inr (8, fs))) (hlen : fs.length = 29) (g_of : fs[2]? = some (.ref mof)) (g_cells : fs[3]? = some (.ref mce)) (g_rows : fs[4]? = some (.int (nI N))) (g_falls : fs[16]? = some (.int fl)) (g_first : fs[12]? = some (.int a1)) (g_second : fs[13]? = some (.int a2)) (g_at : fs[19]? = some (.int aT)) (g_beside : fs[20]? = some (.int bT)) (fof : h mof = some (xI V 400 of)) (fce : h mce = some (xI V 2400 f)) (hN : N ≤ 400) (ho1 : ordS of (fun k => f (k * 6)) fl N a1 n1 p1) (hs2 : ¬ a2 = -1) (ho2 : ordS of (fun k => f (k * 6)) fl N a2 n2 p2) (hc : mCur a2 p1 p2 n1 n2 i j aT bT) : xM V y_Mo_moves b_Mo_moves 1 (some .boolean) 2 [.ref m] h 0 0 (fun v h' => ∃ fs' aT' bT', h' m = some (.inr (8, fs')) ∧ mUp [19, 20] fs fs' ∧ fs'[19]? = some (.int aT') ∧ fs'[20]? = some (.int bT') ∧ xKeep [m] h h' ∧ ((v = some (.int 0) ∧ nx2 n1 n2 i j = none) ∨ ∃ i' j', v = some (.int 1) ∧ nx2 n1 n2 i j = some (i', j') ∧ mCur a2 p1 p2 n1 n2 i' (j' + 1) aT' bT')) := by
  refine xM_of false (by decide) (fun h => nomatch h) (Nat.le_of_ble_eq_true rfl) (fun K C => ?_)
  show K 0 0 h 0 [(0, .ref m)] []
  have kp : xKeep [m] h h := xKeep.rf
  have mu : mUp [19, 20] fs fs := mUp.rf
  have hp1 : ∀ k, k < n1 → p1 k < 400 := fun k hk => ho1.lt hN hk
  have hp2 : ∀ k, k < n2 → p2 k < 400 := fun k hk => ho2.lt hN hk
  have loop : ∀ mq : Nat, ∀ (ee : Nat) (h1 : xH) (fs1 : List Value) (aT1 bT1 : Int32), ee < mq → h1 m = some (.inr (8, fs1)) → mUp [19, 20] fs fs1 → h1 mof = some (xI V 400 of) → h1 mce = some (xI V 2400 f) → xKeep [m] h h1 → fs1[19]? = some (.int aT1) → fs1[20]? = some (.int bT1) → (mvD a2 p1 p2 n1 n2 i j aT1 bT1 ∨ (ee = 1 ∧ (aT1 = -1 ∨ bT1 = -1) ∧ mvP of (fun k => f (k * 6)) fl a1 N n1 n2 i j p1 aT1)) → K 0 0 h1 62 [(0, .ref m)] [] := by
    intro mq
    induction mq with
    | zero => intro ee h1 fs1 aT1 bT1 hm fm mu fof fce kp g_at g_beside hI; omega
    | succ mq ih =>
      intro ee h1 fs1 aT1 bT1 hm fm mu fof fce kp g_at g_beside hI
      have hlen := mu.1.trans hlen
      have g_of := mu.get g_of (by decide)
      have g_cells := mu.get g_cells (by decide)
      have g_rows := mu.get g_rows (by decide)
      have g_falls := mu.get g_falls (by decide)
      have g_first := mu.get g_first (by decide)
      have g_second := mu.get g_second (by decide)
      refine x_aload_n C d_Mo_moves_62 rfl rfl ?_
      refine x_get C k_Mo f_Mo_142 d_Mo_moves_63 fm g_at ?_
      refine x_iconst (v := -1) C d_Mo_moves_66 (by decide) ?_
      refine x_icmp_eq (tgt := 78) C d_Mo_moves_67 rfl (fun q67 => ?_) (fun q67 => ?_)
      · skip
        obtain ⟨he1, hor, ii, r0, hr0, hnx, hx2⟩ := Or.resolve_left hI (fun z => (z.ne hs2 hp1 hp2).1 q67)
        refine x_aload_n C d_Mo_moves_78 rfl rfl ?_
        refine x_aload_n C d_Mo_moves_79 rfl rfl ?_
        refine x_aload_n C d_Mo_moves_80 rfl rfl ?_
        refine x_get C k_Mo f_Mo_115 d_Mo_moves_81 fm g_first ?_
        refine x_aload_n C d_Mo_moves_84 rfl rfl ?_
        refine x_get C k_Mo f_Mo_142 d_Mo_moves_85 fm g_at ?_
        refine x_callV C l_Mo_162 v_Mo_behind d_Mo_moves_88 (m_Mo_behind fm hlen g_of g_cells g_rows fof fce hN g_falls a1 aT1 (r0 := r0) hr0) fm rfl (by rfl) (by rfl) (by decide) (by decide) (Nat.le_of_ble_eq_true rfl) ?_
        rintro v9 h9 ⟨rfl, x9, rfl, hb9⟩
        have e9 := hnx x9 hb9
        refine x_put C k_Mo f_Mo_142 d_Mo_moves_91 fm (by rfl) (by rfl) (by rfl) (by omega) rfl (fun h1 u1 => ?_)
        have fof := xUp_ne u1 fof (by first | assumption | exact Ne.symm (by assumption) | exact x_ne fof fm (by simp))
        have fce := xUp_ne u1 fce (by first | assumption | exact Ne.symm (by assumption) | exact x_ne fce fm (by simp))
        have fm := xUp_at u1
        have kp := kp.up u1 (by simp)
        have g_of := gs_ne fm g_of (by decide)
        have g_cells := gs_ne fm g_cells (by decide)
        have g_rows := gs_ne fm g_rows (by decide)
        have g_falls := gs_ne fm g_falls (by decide)
        have g_first := gs_ne fm g_first (by decide)
        have g_second := gs_ne fm g_second (by decide)
        have g_beside := gs_ne fm g_beside (by decide)
        have g_at := gs_eq fm hlen (by decide)
        have mu := mu.setF fm (by decide)
        have hlen := gs_len fm hlen
        refine x_aload_n C d_Mo_moves_94 rfl rfl ?_
        refine x_get C k_Mo f_Mo_142 d_Mo_moves_95 fm g_at ?_
        refine x_iconst (v := -1) C d_Mo_moves_98 (by decide) ?_
        refine x_icmp_ne (tgt := 104) C d_Mo_moves_99 rfl (fun q99 => ?_) (fun q99 => ?_)
        · skip
          obtain ⟨hii, hx9⟩ := nxP_lt e9 q99
          refine x_aload_n C d_Mo_moves_104 rfl rfl ?_
          refine x_aload_n C d_Mo_moves_105 rfl rfl ?_
          refine x_aload_n C d_Mo_moves_106 rfl rfl ?_
          refine x_get C k_Mo f_Mo_118 d_Mo_moves_107 fm g_second ?_
          refine x_iconst (v := -1) C d_Mo_moves_110 (by decide) ?_
          refine x_callV C l_Mo_162 v_Mo_behind d_Mo_moves_111 (m_Mo_behind fm hlen g_of g_cells g_rows fof fce hN g_falls a2 (-1) (r0 := 0) (Or.inl rfl)) fm rfl (by rfl) (by rfl) (by decide) (by decide) (Nat.le_of_ble_eq_true rfl) ?_
          rintro v9 h9 ⟨rfl, y9, rfl, hc9⟩
          have f9 := bh_first ho2 rfl hN hc9
          refine x_put C k_Mo f_Mo_145 d_Mo_moves_114 fm (by rfl) (by rfl) (by rfl) (by omega) rfl (fun h2 u2 => ?_)
          have fof := xUp_ne u2 fof (by first | assumption | exact Ne.symm (by assumption) | exact x_ne fof fm (by simp))
          have fce := xUp_ne u2 fce (by first | assumption | exact Ne.symm (by assumption) | exact x_ne fce fm (by simp))
          have fm := xUp_at u2
          have kp := kp.up u2 (by simp)
          have g_of := gs_ne fm g_of (by decide)
          have g_cells := gs_ne fm g_cells (by decide)
          have g_rows := gs_ne fm g_rows (by decide)
          have g_falls := gs_ne fm g_falls (by decide)
          have g_first := gs_ne fm g_first (by decide)
          have g_second := gs_ne fm g_second (by decide)
          have g_at := gs_ne fm g_at (by decide)
          have g_beside := gs_eq fm hlen (by decide)
          have mu := mu.setF fm (by decide)
          have hlen := gs_len fm hlen
          refine x_aload_n C d_Mo_moves_117 rfl rfl ?_
          refine x_get C k_Mo f_Mo_145 d_Mo_moves_118 fm g_beside ?_
          refine x_iconst (v := -1) C d_Mo_moves_121 (by decide) ?_
          refine x_icmp_ne (tgt := 62) C d_Mo_moves_122 rfl (fun q122 => ?_) (fun q122 => ?_)
          · skip
            exact ih 0 _ _ _ _ (by omega) fm mu fof fce kp g_at g_beside (Or.inl ⟨ii, 0, by rw [hx2, if_pos ⟨hii, (nxP_lt f9 q122).1⟩], mCur.at_pair hii (nxP_lt f9 q122).1 hx9 (Or.inr ⟨hs2, (nxP_lt f9 q122).2⟩)⟩)
          · skip
            refine x_iconst (v := 0) C d_Mo_moves_125 (by decide) ?_
            refine x_zret C d_Mo_moves_126 (by rfl) ?_
            exact ⟨_, _, _, fm, mu, g_at, g_beside, kp, Or.inl ⟨rfl, by rw [hx2, if_neg (fun z => nxP_ge ho2 hN f9 q122 z.2)]⟩⟩
        · skip
          refine x_iconst (v := 0) C d_Mo_moves_102 (by decide) ?_
          refine x_zret C d_Mo_moves_103 (by rfl) ?_
          exact ⟨_, _, _, fm, mu, g_at, g_beside, kp, Or.inl ⟨rfl, by rw [hx2, if_neg (fun z => nxP_ge ho1 hN e9 q99 z.1)]⟩⟩
      · skip
        refine x_aload_n C d_Mo_moves_70 rfl rfl ?_
        refine x_get C k_Mo f_Mo_145 d_Mo_moves_71 fm g_beside ?_
        refine x_iconst (v := -1) C d_Mo_moves_74 (by decide) ?_
        refine x_icmp_ne (tgt := 127) C d_Mo_moves_75 rfl (fun q75 => ?_) (fun q75 => ?_)
        · skip
          refine x_iconst (v := 1) C d_Mo_moves_127 (by decide) ?_
          refine x_zret C d_Mo_moves_128 (by rfl) ?_
          obtain ⟨i', j', hx, hcu⟩ := Or.resolve_right hI (fun z => by rcases z.2.1 with y | y; exact q67 y; exact q75 y)
          exact ⟨_, _, _, fm, mu, g_at, g_beside, kp, Or.inr ⟨i', j', rfl, hx, hcu⟩⟩
        · skip
          obtain ⟨he1, hor, ii, r0, hr0, hnx, hx2⟩ := Or.resolve_left hI (fun z => (z.ne hs2 hp1 hp2).2 q75)
          refine x_aload_n C d_Mo_moves_78 rfl rfl ?_
          refine x_aload_n C d_Mo_moves_79 rfl rfl ?_
          refine x_aload_n C d_Mo_moves_80 rfl rfl ?_
          refine x_get C k_Mo f_Mo_115 d_Mo_moves_81 fm g_first ?_
          refine x_aload_n C d_Mo_moves_84 rfl rfl ?_
          refine x_get C k_Mo f_Mo_142 d_Mo_moves_85 fm g_at ?_
          refine x_callV C l_Mo_162 v_Mo_behind d_Mo_moves_88 (m_Mo_behind fm hlen g_of g_cells g_rows fof fce hN g_falls a1 aT1 (r0 := r0) hr0) fm rfl (by rfl) (by rfl) (by decide) (by decide) (Nat.le_of_ble_eq_true rfl) ?_
          rintro v9 h9 ⟨rfl, x9, rfl, hb9⟩
          have e9 := hnx x9 hb9
          refine x_put C k_Mo f_Mo_142 d_Mo_moves_91 fm (by rfl) (by rfl) (by rfl) (by omega) rfl (fun h3 u3 => ?_)
          have fof := xUp_ne u3 fof (by first | assumption | exact Ne.symm (by assumption) | exact x_ne fof fm (by simp))
          have fce := xUp_ne u3 fce (by first | assumption | exact Ne.symm (by assumption) | exact x_ne fce fm (by simp))
          have fm := xUp_at u3
          have kp := kp.up u3 (by simp)
          have g_of := gs_ne fm g_of (by decide)
          have g_cells := gs_ne fm g_cells (by decide)
          have g_rows := gs_ne fm g_rows (by decide)
          have g_falls := gs_ne fm g_falls (by decide)
          have g_first := gs_ne fm g_first (by decide)
          have g_second := gs_ne fm g_second (by decide)
          have g_beside := gs_ne fm g_beside (by decide)
          have g_at := gs_eq fm hlen (by decide)
          have mu := mu.setF fm (by decide)
          have hlen := gs_len fm hlen
          refine x_aload_n C d_Mo_moves_94 rfl rfl ?_
          refine x_get C k_Mo f_Mo_142 d_Mo_moves_95 fm g_at ?_
          refine x_iconst (v := -1) C d_Mo_moves_98 (by decide) ?_
          refine x_icmp_ne (tgt := 104) C d_Mo_moves_99 rfl (fun q99 => ?_) (fun q99 => ?_)
          · skip
            obtain ⟨hii, hx9⟩ := nxP_lt e9 q99
            refine x_aload_n C d_Mo_moves_104 rfl rfl ?_
            refine x_aload_n C d_Mo_moves_105 rfl rfl ?_
            refine x_aload_n C d_Mo_moves_106 rfl rfl ?_
            refine x_get C k_Mo f_Mo_118 d_Mo_moves_107 fm g_second ?_
            refine x_iconst (v := -1) C d_Mo_moves_110 (by decide) ?_
            refine x_callV C l_Mo_162 v_Mo_behind d_Mo_moves_111 (m_Mo_behind fm hlen g_of g_cells g_rows fof fce hN g_falls a2 (-1) (r0 := 0) (Or.inl rfl)) fm rfl (by rfl) (by rfl) (by decide) (by decide) (Nat.le_of_ble_eq_true rfl) ?_
            rintro v9 h9 ⟨rfl, y9, rfl, hc9⟩
            have f9 := bh_first ho2 rfl hN hc9
            refine x_put C k_Mo f_Mo_145 d_Mo_moves_114 fm (by rfl) (by rfl) (by rfl) (by omega) rfl (fun h4 u4 => ?_)
            have fof := xUp_ne u4 fof (by first | assumption | exact Ne.symm (by assumption) | exact x_ne fof fm (by simp))
            have fce := xUp_ne u4 fce (by first | assumption | exact Ne.symm (by assumption) | exact x_ne fce fm (by simp))
            have fm := xUp_at u4
            have kp := kp.up u4 (by simp)
            have g_of := gs_ne fm g_of (by decide)
            have g_cells := gs_ne fm g_cells (by decide)
            have g_rows := gs_ne fm g_rows (by decide)
            have g_falls := gs_ne fm g_falls (by decide)
            have g_first := gs_ne fm g_first (by decide)
            have g_second := gs_ne fm g_second (by decide)
            have g_at := gs_ne fm g_at (by decide)
            have g_beside := gs_eq fm hlen (by decide)
            have mu := mu.setF fm (by decide)
            have hlen := gs_len fm hlen
            refine x_aload_n C d_Mo_moves_117 rfl rfl ?_
            refine x_get C k_Mo f_Mo_145 d_Mo_moves_118 fm g_beside ?_
            refine x_iconst (v := -1) C d_Mo_moves_121 (by decide) ?_
            refine x_icmp_ne (tgt := 62) C d_Mo_moves_122 rfl (fun q122 => ?_) (fun q122 => ?_)
            · skip
              exact ih 0 _ _ _ _ (by omega) fm mu fof fce kp g_at g_beside (Or.inl ⟨ii, 0, by rw [hx2, if_pos ⟨hii, (nxP_lt f9 q122).1⟩], mCur.at_pair hii (nxP_lt f9 q122).1 hx9 (Or.inr ⟨hs2, (nxP_lt f9 q122).2⟩)⟩)
            · skip
              refine x_iconst (v := 0) C d_Mo_moves_125 (by decide) ?_
              refine x_zret C d_Mo_moves_126 (by rfl) ?_
              exact ⟨_, _, _, fm, mu, g_at, g_beside, kp, Or.inl ⟨rfl, by rw [hx2, if_neg (fun z => nxP_ge ho2 hN f9 q122 z.2)]⟩⟩
          · skip
            refine x_iconst (v := 0) C d_Mo_moves_102 (by decide) ?_
            refine x_zret C d_Mo_moves_103 (by rfl) ?_
            exact ⟨_, _, _, fm, mu, g_at, g_beside, kp, Or.inl ⟨rfl, by rw [hx2, if_neg (fun z => nxP_ge ho1 hN e9 q99 z.1)]⟩⟩
  refine x_aload_n C d_Mo_moves_0 rfl rfl ?_
  refine x_get C k_Mo f_Mo_118 d_Mo_moves_1 fm g_second ?_
  refine x_iconst (v := -1) C d_Mo_moves_4 (by decide) ?_
  refine x_icmp_ne (tgt := 38) C d_Mo_moves_5 rfl (fun q5 => ?_) (fun q5 => ?_)
  · skip
    refine x_aload_n C d_Mo_moves_38 rfl rfl ?_
    refine x_get C k_Mo f_Mo_142 d_Mo_moves_39 fm g_at ?_
    refine x_iconst (v := -1) C d_Mo_moves_42 (by decide) ?_
    refine x_icmp_eq (tgt := 62) C d_Mo_moves_43 rfl (fun q43 => ?_) (fun q43 => ?_)
    · skip
      obtain ⟨hi0, hj0⟩ := mv_at ho1 hN hc q43
      first | exact loop 2 1 _ _ _ _ (by omega) fm mu fof fce kp g_at g_beside (Or.inr ⟨rfl, Or.inl q43, by rw [hi0, hj0]; exact mv_fresh ho1 hN q43⟩) | (by_cases hx : x9 = -1; exact loop 2 1 _ _ _ _ (by omega) fm mu fof fce kp g_at g_beside (Or.inr ⟨rfl, Or.inr hx, mv_line ho1 hN hi haT (by have := nxP_ge ho2 hN e9 hx; omega)⟩); exact loop 2 1 _ _ _ _ (by omega) fm mu fof fce kp g_at g_beside (Or.inl ⟨i, j, nx2_here hi (by have := (nxP_lt e9 hx).1; omega), mCur.at_pair hi (by have := (nxP_lt e9 hx).1; omega) haT (Or.inr ⟨hs2, by rw [hj]; exact (nxP_lt e9 hx).2⟩)⟩))
    · skip
      obtain ⟨j', hj, hi, hj', haT, hbT⟩ := mv_on hc q43 hs2
      refine x_aload_n C d_Mo_moves_46 rfl rfl ?_
      refine x_aload_n C d_Mo_moves_47 rfl rfl ?_
      refine x_aload_n C d_Mo_moves_48 rfl rfl ?_
      refine x_get C k_Mo f_Mo_118 d_Mo_moves_49 fm g_second ?_
      refine x_aload_n C d_Mo_moves_52 rfl rfl ?_
      refine x_get C k_Mo f_Mo_145 d_Mo_moves_53 fm g_beside ?_
      refine x_callV C l_Mo_162 v_Mo_behind d_Mo_moves_56 (m_Mo_behind fm hlen g_of g_cells g_rows fof fce hN g_falls a2 bT (r0 := p2 j') (Or.inr ⟨hbT, hp2 j' hj'⟩)) fm rfl (by rfl) (by rfl) (by decide) (by decide) (Nat.le_of_ble_eq_true rfl) ?_
      rintro v9 h9 ⟨rfl, x9, rfl, hb9⟩
      have e9 := bh_next ho2 hbT hj' hN hb9
      refine x_put C k_Mo f_Mo_145 d_Mo_moves_59 fm (by rfl) (by rfl) (by rfl) (by omega) rfl (fun h5 u5 => ?_)
      have fof := xUp_ne u5 fof (by first | assumption | exact Ne.symm (by assumption) | exact x_ne fof fm (by simp))
      have fce := xUp_ne u5 fce (by first | assumption | exact Ne.symm (by assumption) | exact x_ne fce fm (by simp))
      have fm := xUp_at u5
      have kp := kp.up u5 (by simp)
      have g_of := gs_ne fm g_of (by decide)
      have g_cells := gs_ne fm g_cells (by decide)
      have g_rows := gs_ne fm g_rows (by decide)
      have g_falls := gs_ne fm g_falls (by decide)
      have g_first := gs_ne fm g_first (by decide)
      have g_second := gs_ne fm g_second (by decide)
      have g_at := gs_ne fm g_at (by decide)
      have g_beside := gs_eq fm hlen (by decide)
      have mu := mu.setF fm (by decide)
      have hlen := gs_len fm hlen
      first | exact loop 2 1 _ _ _ _ (by omega) fm mu fof fce kp g_at g_beside (Or.inr ⟨rfl, Or.inl q43, by rw [hi0, hj0]; exact mv_fresh ho1 hN q43⟩) | (by_cases hx : x9 = -1; exact loop 2 1 _ _ _ _ (by omega) fm mu fof fce kp g_at g_beside (Or.inr ⟨rfl, Or.inr hx, mv_line ho1 hN hi haT (by have := nxP_ge ho2 hN e9 hx; omega)⟩); exact loop 2 1 _ _ _ _ (by omega) fm mu fof fce kp g_at g_beside (Or.inl ⟨i, j, nx2_here hi (by have := (nxP_lt e9 hx).1; omega), mCur.at_pair hi (by have := (nxP_lt e9 hx).1; omega) haT (Or.inr ⟨hs2, by rw [hj]; exact (nxP_lt e9 hx).2⟩)⟩))
  · skip
    exact absurd q5 hs2
theorem m_Mo_moves {V : xV} {h : xH} {mof mce N n1 n2 i j : Nat} {of f : Nat → Int32} {p1 p2 : Nat → Nat} {fl a1 a2 aT bT : Int32} {m : Nat} {fs : List Value} (fm : h m = some (.inr (8, fs))) (hlen : fs.length = 29) (g_of : fs[2]? = some (.ref mof)) (g_cells : fs[3]? = some (.ref mce)) (g_rows : fs[4]? = some (.int (nI N))) (g_falls : fs[16]? = some (.int fl)) (g_first : fs[12]? = some (.int a1)) (g_second : fs[13]? = some (.int a2)) (g_at : fs[19]? = some (.int aT)) (g_beside : fs[20]? = some (.int bT)) (fof : h mof = some (xI V 400 of)) (fce : h mce = some (xI V 2400 f)) (hN : N ≤ 400) (ho1 : ordS of (fun k => f (k * 6)) fl N a1 n1 p1) (h2 : (a2 = -1 ∧ n2 = 1) ∨ (¬ a2 = -1 ∧ ordS of (fun k => f (k * 6)) fl N a2 n2 p2)) (hc : mCur a2 p1 p2 n1 n2 i j aT bT) : xM V y_Mo_moves b_Mo_moves 1 (some .boolean) 2 [.ref m] h 0 0 (fun v h' => ∃ fs' aT' bT', h' m = some (.inr (8, fs')) ∧ mUp [19, 20] fs fs' ∧ fs'[19]? = some (.int aT') ∧ fs'[20]? = some (.int bT') ∧ xKeep [m] h h' ∧ ((v = some (.int 0) ∧ nx2 n1 n2 i j = none) ∨ ∃ i' j', v = some (.int 1) ∧ nx2 n1 n2 i j = some (i', j') ∧ mCur a2 p1 p2 n1 n2 i' (j' + 1) aT' bT')) := by
  rcases h2 with ⟨rfl, rfl⟩ | ⟨h2, ho2⟩
  · exact m_Mo_moves1 fm hlen g_of g_cells g_rows g_falls g_first g_second g_at g_beside fof fce hN ho1 hc
  · exact m_Mo_moves2 fm hlen g_of g_cells g_rows g_falls g_first g_second g_at g_beside fof fce hN ho1 h2 ho2 hc
set_option maxRecDepth 20000 in
set_option maxHeartbeats 1000000 in
theorem m_Mo_creates {V : xV} {h : xH} {mco mhn t1 : Nat} {c hn : Nat → Int32} {m : Nat} {fs : List Value} (fm : h m = some (.inr (8, fs))) (hlen : fs.length = 29) (g_columns : fs[1]? = some (.ref mco)) (g_hadNumbers : fs[9]? = some (.ref mhn)) (g_first : fs[12]? = some (.int (nI t1))) (fco : h mco = some (xI V 10 c)) (fhn : h mhn = some (xI V 60 hn)) (ht1 : t1 < 10) : xM V y_Mo_creates b_Mo_creates 1 (some .int) 1 [.ref m] h 0 0 (fun v h' => ∃ c' an, v = some (.int an) ∧ h' mco = some (xI V 10 c') ∧ xKeep [mco] h h' ∧ ((¬ c t1 ≤ 0 ∧ an = -3 ∧ c' = c) ∨ (c t1 ≤ 0 ∧ an = 0 ∧ c' = upd c t1 (hn 2)))) := by
  refine xM_of false (by decide) (fun h => nomatch h) (Nat.le_of_ble_eq_true rfl) (fun K C => ?_)
  show K 0 0 h 0 [(0, .ref m)] []
  have kp : xKeep [mco] h h := xKeep.rf
  refine x_aload_n C d_Mo_creates_0 rfl rfl ?_
  refine x_aload_n C d_Mo_creates_1 rfl rfl ?_
  refine x_get C k_Mo f_Mo_115 d_Mo_creates_2 fm g_first ?_
  refine x_callV C l_Mo_101 v_Mo_isThere d_Mo_creates_5 (m_Mo_isThere (t := t1) fm hlen g_columns fco ht1) fm rfl (by rfl) (by rfl) (by decide) (by decide) (Nat.le_of_ble_eq_true rfl) ?_
  rintro v9 h9 ⟨rfl, rfl⟩
  refine x_if_eq (tgt := 14) C d_Mo_creates_8 rfl (fun q8 => ?_) (fun q8 => ?_)
  · skip
    replace q8 := bI_f q8
    refine x_aload_n C d_Mo_creates_14 rfl rfl ?_
    refine x_get C k_Mo f_Mo_7 d_Mo_creates_15 fm g_columns ?_
    refine x_aload_n C d_Mo_creates_18 rfl rfl ?_
    refine x_get C k_Mo f_Mo_115 d_Mo_creates_19 fm g_first ?_
    refine x_aload_n C d_Mo_creates_22 rfl rfl ?_
    refine x_get C k_Mo f_Mo_28 d_Mo_creates_23 fm g_hadNumbers ?_
    refine x_iconst (v := 2) C d_Mo_creates_26 (by decide) ?_
    refine x_iald C d_Mo_creates_27 fhn (vp_in_nI (n := 2) (by decide) (by decide)) ?_
    rw [show (2 : Int32).toNatClampNeg = 2 by decide]
    refine x_iast C d_Mo_creates_28 fco (vp_in_nI ht1 (by decide)) (fun h1 u1 => ?_)
    have fm := xUp_ne u1 fm (by first | assumption | exact Ne.symm (by assumption) | exact x_ne fm fco (by simp))
    have fhn := xUp_ne u1 fhn (by first | assumption | exact Ne.symm (by assumption) | exact x_ne fhn fco (by simp))
    have fco := xUp_at u1
    have kp := kp.up u1 (by simp)
    refine x_iconst (v := 0) C d_Mo_creates_29 (by decide) ?_
    refine x_iret C d_Mo_creates_30 ?_
    exact ⟨upd c t1 (hn 2), _, rfl, by rw [fco, nI_clamp (by omega)], kp, Or.inr ⟨by simpa using q8, rfl, rfl⟩⟩
  · skip
    replace q8 := bI_t q8
    refine x_bipush (v := -3) C d_Mo_creates_11 (by decide) ?_
    refine x_iret C d_Mo_creates_13 ?_
    exact ⟨c, _, rfl, fco, kp, Or.inl ⟨by simpa using q8, rfl, rfl⟩⟩
set_option maxRecDepth 20000 in
set_option maxHeartbeats 1000000 in
theorem m_Mo_inserts {V : xV} {h : xH} {mco mhn mof mce N t1 cN : Nat} {c hn of f : Nat → Int32} {m : Nat} {fs : List Value} (fm : h m = some (.inr (8, fs))) (hlen : fs.length = 29) (g_columns : fs[1]? = some (.ref mco)) (g_hadNumbers : fs[9]? = some (.ref mhn)) (g_of : fs[2]? = some (.ref mof)) (g_cells : fs[3]? = some (.ref mce)) (g_rows : fs[4]? = some (.int (nI N))) (g_first : fs[12]? = some (.int (nI t1))) (fco : h mco = some (xI V 10 c)) (fhn : h mhn = some (xI V 60 hn)) (fof : h mof = some (xI V 400 of)) (fce : h mce = some (xI V 2400 f)) (hN : N ≤ 400) (ht1 : t1 < 10) (hcN : c t1 = nI cN) (hc6 : cN ≤ 6) : xM V y_Mo_inserts b_Mo_inserts 2 (some .int) 2 [.ref m] h 0 0 (fun v h' => ∃ fs' of' f' an, v = some (.int an) ∧ h' m = some (.inr (8, fs')) ∧ mUp [4] fs fs' ∧ h' mof = some (xI V 400 of') ∧ h' mce = some (xI V 2400 f') ∧ xKeep [m, mof, mce] h h' ∧ (((∃ k, k < N ∧ of k = nI t1 ∧ f (k * 6) = hn 2) ∧ an = -1 ∧ of' = of ∧ f' = f ∧ fs'[4]? = some (.int (nI N))) ∨ (¬ (∃ k, k < N ∧ of k = nI t1 ∧ f (k * 6) = hn 2) ∧ N = 400 ∧ an = -2 ∧ of' = of ∧ f' = f ∧ fs'[4]? = some (.int (nI N))) ∨ (¬ (∃ k, k < N ∧ of k = nI t1 ∧ f (k * 6) = hn 2) ∧ N < 400 ∧ an = 0 ∧ of' = upd of N (nI t1) ∧ (∀ q, q < N * 6 → f' q = f q) ∧ (∀ k, k < cN → f' (N * 6 + k) = hn (2 + k)) ∧ fs'[4]? = some (.int (nI (N + 1)))))) := by
  refine xM_of false (by decide) (fun h => nomatch h) (Nat.le_of_ble_eq_true rfl) (fun K C => ?_)
  show K 0 0 h 0 [(0, .ref m)] []
  have kp : xKeep [m, mof, mce] h h := xKeep.rf
  have mu : mUp [4] fs fs := mUp.rf
  have loop : ∀ mq : Nat, ∀ (i : Nat) (h1 : xH) (f1 : Nat → Int32), cN - i < mq → i ≤ cN → N < 400 → ¬ (∃ k, k < N ∧ of k = nI t1 ∧ f (k * 6) = hn 2) → h1 m = some (.inr (8, fs)) → h1 mco = some (xI V 10 c) → h1 mhn = some (xI V 60 hn) → h1 mof = some (xI V 400 (upd of N (nI t1))) → h1 mce = some (xI V 2400 f1) → xKeep [m, mof, mce] h h1 → (∀ q, q < N * 6 → f1 q = f q) → (∀ k, k < i → f1 (N * 6 + k) = hn (2 + k)) → K 0 0 h1 48 [(1, .int (nI i)), (0, .ref m)] [] := by
    intro mq
    induction mq with
    | zero => intro i h1 f1 hm hi hN4 hno fm fco fhn fof fce kp hold hnew; omega
    | succ mq ih =>
      intro i h1 f1 hm hi hN4 hno fm fco fhn fof fce kp hold hnew
      refine x_iload_n C d_Mo_inserts_48 rfl rfl ?_
      refine x_aload_n C d_Mo_inserts_49 rfl rfl ?_
      refine x_get C k_Mo f_Mo_7 d_Mo_inserts_50 fm g_columns ?_
      refine x_aload_n C d_Mo_inserts_53 rfl rfl ?_
      refine x_get C k_Mo f_Mo_115 d_Mo_inserts_54 fm g_first ?_
      refine x_iald C d_Mo_inserts_57 fco (vp_in_nI ht1 (by decide)) ?_
      rw [nI_clamp (by omega), hcN]
      refine x_icmp_ge (tgt := 89) C d_Mo_inserts_58 rfl (fun q58 => ?_) (fun q58 => ?_)
      · skip
        have hi2 : i = cN := by have := nge_of q58 (by omega); omega
        refine x_aload_n C d_Mo_inserts_89 rfl rfl ?_
        refine x_dup C d_Mo_inserts_90 rfl ?_
        refine x_get C k_Mo f_Mo_159 d_Mo_inserts_91 fm g_rows ?_
        refine x_iconst (v := 1) C d_Mo_inserts_94 (by decide) ?_
        refine x_iadd C d_Mo_inserts_95 ?_
        refine x_put C k_Mo f_Mo_159 d_Mo_inserts_96 fm (by rfl) (by rfl) (by rfl) (by omega) rfl (fun h1 u1 => ?_)
        have fco := xUp_ne u1 fco (by first | assumption | exact Ne.symm (by assumption) | exact x_ne fco fm (by simp))
        have fhn := xUp_ne u1 fhn (by first | assumption | exact Ne.symm (by assumption) | exact x_ne fhn fm (by simp))
        have fof := xUp_ne u1 fof (by first | assumption | exact Ne.symm (by assumption) | exact x_ne fof fm (by simp))
        have fce := xUp_ne u1 fce (by first | assumption | exact Ne.symm (by assumption) | exact x_ne fce fm (by simp))
        have fm := xUp_at u1
        have kp := kp.up u1 (by simp)
        have g_columns := gs_ne fm g_columns (by decide)
        have g_hadNumbers := gs_ne fm g_hadNumbers (by decide)
        have g_of := gs_ne fm g_of (by decide)
        have g_cells := gs_ne fm g_cells (by decide)
        have g_first := gs_ne fm g_first (by decide)
        have g_rows := gs_eq fm hlen (by decide)
        have mu := mu.setF fm (by decide)
        have hlen := gs_len fm hlen
        refine x_iconst (v := 0) C d_Mo_inserts_99 (by decide) ?_
        refine x_iret C d_Mo_inserts_100 ?_
        exact ⟨_, _, f1, _, rfl, fm, mu, fof, fce, kp, Or.inr (Or.inr ⟨hno, hN4, rfl, rfl, hold, by subst hi2; exact hnew, by rw [g_rows, nI_1]⟩)⟩
      · skip
        have hi2 := nlt_of q58 (by omega) (by omega)
        refine x_aload_n C d_Mo_inserts_61 rfl rfl ?_
        refine x_get C k_Mo f_Mo_16 d_Mo_inserts_62 fm g_cells ?_
        refine x_bipush (v := 6) C d_Mo_inserts_65 (by decide) ?_
        refine x_aload_n C d_Mo_inserts_67 rfl rfl ?_
        refine x_get C k_Mo f_Mo_159 d_Mo_inserts_68 fm g_rows ?_
        refine x_imul C d_Mo_inserts_71 ?_
        refine x_iload_n C d_Mo_inserts_72 rfl rfl ?_
        refine x_iadd C d_Mo_inserts_73 ?_
        refine x_aload_n C d_Mo_inserts_74 rfl rfl ?_
        refine x_get C k_Mo f_Mo_28 d_Mo_inserts_75 fm g_hadNumbers ?_
        refine x_iconst (v := 2) C d_Mo_inserts_78 (by decide) ?_
        refine x_iload_n C d_Mo_inserts_79 rfl rfl ?_
        refine x_iadd C d_Mo_inserts_80 ?_
        rw [show (2 : Int32) + nI i = nI (2 + i) from nI_add 2 i]
        refine x_iald C d_Mo_inserts_81 fhn (vp_in_nI (by omega) (by decide)) ?_
        rw [nI_clamp (by omega), show (6 : Int32) * nI N + nI i = nI (N * 6 + i) by rw [show (6 : Int32) * nI N = nI (6 * N) from pk_mul 6 N, nI_add, Nat.mul_comm]]
        refine x_iast C d_Mo_inserts_82 fce (vp_in_nI (by omega) (by decide)) (fun h2 u2 => ?_)
        have fm := xUp_ne u2 fm (by first | assumption | exact Ne.symm (by assumption) | exact x_ne fm fce (by simp))
        have fco := xUp_ne u2 fco (by first | assumption | exact Ne.symm (by assumption) | exact x_ne fco fce (by simp))
        have fhn := xUp_ne u2 fhn (by first | assumption | exact Ne.symm (by assumption) | exact x_ne fhn fce (by simp))
        have fof := xUp_ne u2 fof (by first | assumption | exact Ne.symm (by assumption) | exact x_ne fof fce (by simp))
        have fce := xUp_at u2
        have kp := kp.up u2 (by simp)
        refine x_iinc (v := nI (i + 1)) (k0 := 0) (lv' := [(1, _), (0, _)]) C d_Mo_inserts_83 (by rfl) (nI_1 i) (by decide) (by rfl) ?_
        refine x_goto (tgt := 48) C d_Mo_inserts_86 rfl ?_
        refine ih (i + 1) _ (upd f1 (N * 6 + i) (hn (2 + i))) (by omega) (by omega) hN4 hno fm fco fhn fof (by rw [fce, nI_clamp (by omega)]) kp (fun q hq => by rw [pk_un (by omega)]; exact hold q hq) (fun k hk => ?_)
        by_cases hki : k = i
        · subst hki; exact pk_us
        · rw [pk_un (by omega)]; exact hnew k (by omega)
  refine x_aload_n C d_Mo_inserts_0 rfl rfl ?_
  refine x_aload_n C d_Mo_inserts_1 rfl rfl ?_
  refine x_get C k_Mo f_Mo_115 d_Mo_inserts_2 fm g_first ?_
  refine x_aload_n C d_Mo_inserts_5 rfl rfl ?_
  refine x_get C k_Mo f_Mo_28 d_Mo_inserts_6 fm g_hadNumbers ?_
  refine x_iconst (v := 2) C d_Mo_inserts_9 (by decide) ?_
  refine x_iald C d_Mo_inserts_10 fhn (vp_in_nI (n := 2) (by decide) (by decide)) ?_
  rw [show (2 : Int32).toNatClampNeg = 2 by decide]
  refine x_callV C l_Mo_165 v_Mo_findKey d_Mo_inserts_11 (m_Mo_findKey fm hlen g_of g_cells g_rows fof fce hN (nI t1) (hn 2)) fm rfl (by rfl) (by rfl) (by decide) (by decide) (Nat.le_of_ble_eq_true rfl) ?_
  rintro v9 h9 ⟨rfl, r9, rfl, hr9⟩
  refine x_iconst (v := -1) C d_Mo_inserts_14 (by decide) ?_
  refine x_icmp_eq (tgt := 20) C d_Mo_inserts_15 rfl (fun q15 => ?_) (fun q15 => ?_)
  · skip
    have hno : ¬ (∃ k, k < N ∧ of k = nI t1 ∧ f (k * 6) = hn 2) := fun ⟨k, z1, z2, z3⟩ => by
      rcases hr9 with y | ⟨k', y1, y2, -⟩
      · exact y.2 k z1 ⟨z2, z3⟩
      · exact nI_m1 (by omega) (y2.symm.trans q15)
    refine x_aload_n C d_Mo_inserts_20 rfl rfl ?_
    refine x_get C k_Mo f_Mo_159 d_Mo_inserts_21 fm g_rows ?_
    refine x_sipush (v := 400) C d_Mo_inserts_24 (by decide) ?_
    refine x_icmp_ne (tgt := 33) C d_Mo_inserts_27 rfl (fun q27 => ?_) (fun q27 => ?_)
    · skip
      have hN4 : N < 400 := by rcases Nat.lt_or_ge N 400 with z | z; exact z; exact absurd (show nI N = 400 by rw [show N = 400 by omega]; rfl) q27
      refine x_aload_n C d_Mo_inserts_33 rfl rfl ?_
      refine x_get C k_Mo f_Mo_13 d_Mo_inserts_34 fm g_of ?_
      refine x_aload_n C d_Mo_inserts_37 rfl rfl ?_
      refine x_get C k_Mo f_Mo_159 d_Mo_inserts_38 fm g_rows ?_
      refine x_aload_n C d_Mo_inserts_41 rfl rfl ?_
      refine x_get C k_Mo f_Mo_115 d_Mo_inserts_42 fm g_first ?_
      refine x_iast C d_Mo_inserts_45 fof (vp_in_nI hN4 (by decide)) (fun h3 u3 => ?_)
      have fm := xUp_ne u3 fm (by first | assumption | exact Ne.symm (by assumption) | exact x_ne fm fof (by simp))
      have fco := xUp_ne u3 fco (by first | assumption | exact Ne.symm (by assumption) | exact x_ne fco fof (by simp))
      have fhn := xUp_ne u3 fhn (by first | assumption | exact Ne.symm (by assumption) | exact x_ne fhn fof (by simp))
      have fce := xUp_ne u3 fce (by first | assumption | exact Ne.symm (by assumption) | exact x_ne fce fof (by simp))
      have fof := xUp_at u3
      have kp := kp.up u3 (by simp)
      refine x_iconst (v := 0) C d_Mo_inserts_46 (by decide) ?_
      refine x_istore_n (lv' := [(1, _), (0, _)]) C d_Mo_inserts_47 rfl (by decide) (by rfl) ?_
      exact loop (cN + 1) 0 _ f (by omega) (by omega) hN4 hno fm fco fhn (by rw [fof, nI_clamp (by omega)]) fce kp (fun _ _ => rfl) lt_0
    · skip
      have hN4 : N = 400 := (nI_eq (b := 400) (by omega) (by omega)).mp q27
      refine x_bipush (v := -2) C d_Mo_inserts_30 (by decide) ?_
      refine x_iret C d_Mo_inserts_32 ?_
      exact ⟨_, of, f, _, rfl, fm, mu, fof, fce, kp, Or.inr (Or.inl ⟨hno, hN4, rfl, rfl, rfl, g_rows⟩)⟩
  · skip
    have hyes : ∃ k, k < N ∧ of k = nI t1 ∧ f (k * 6) = hn 2 := by
      rcases hr9 with y | ⟨k', y1, -, y3, y4⟩
      · exact absurd y.1 q15
      · exact ⟨k', y1, y3, y4⟩
    refine x_iconst (v := -1) C d_Mo_inserts_18 (by decide) ?_
    refine x_iret C d_Mo_inserts_19 ?_
    exact ⟨_, of, f, _, rfl, fm, mu, fof, fce, kp, Or.inl ⟨hyes, rfl, rfl, rfl, g_rows⟩⟩
set_option maxRecDepth 20000 in
set_option maxHeartbeats 1000000 in
theorem m_Mo_deletes {V : xV} {h : xH} {mhk mhn mof mce N t1 fr T bb kc : Nat} {hk hn of f : Nat → Int32} {m : Nat} {fs : List Value} (fm : h m = some (.inr (8, fs))) (hlen : fs.length = 29) (g_hadKinds : fs[8]? = some (.ref mhk)) (g_hadNumbers : fs[9]? = some (.ref mhn)) (g_of : fs[2]? = some (.ref mof)) (g_cells : fs[3]? = some (.ref mce)) (g_rows : fs[4]? = some (.int (nI N))) (g_first : fs[12]? = some (.int (nI t1))) (g_from : fs[14]? = some (.int (nI fr))) (g_to : fs[15]? = some (.int (nI T))) (fhk : h mhk = some (xI V 60 hk)) (fhn : h mhn = some (xI V 60 hn)) (fof : h mof = some (xI V 400 of)) (fce : h mce = some (xI V 2400 f)) (hN : N ≤ 400) (ht1 : t1 < 10) (hFT : mFT fr T bb kc) (htk : mToks hk hn (-1) fr kc) : xM V y_Mo_deletes b_Mo_deletes 4 (some .int) 3 [.ref m] h 0 0 (fun v h' => ∃ fs' of' f' N', v = some (.int 0) ∧ h' m = some (.inr (8, fs')) ∧ mUp [4] fs fs' ∧ h' mof = some (xI V 400 of') ∧ h' mce = some (xI V 2400 f') ∧ xKeep [m, mof, mce] h h' ∧ fs'[4]? = some (.int (nI N')) ∧ N' ≤ N ∧ mRows of' f' N' = (mRows of f N).filter (mKeep hk hn fr kc (nI t1))) := by
  refine xM_of false (by decide) (fun h => nomatch h) (Nat.le_of_ble_eq_true rfl) (fun K C => ?_)
  show K 0 0 h 0 [(0, .ref m)] []
  have kp : xKeep [m, mof, mce] h h := xKeep.rf
  have mu : mUp [4] fs fs := mUp.rf
  have loop : ∀ mq : Nat, ∀ (k lf : Nat) (h1 : xH) (of1 f1 : Nat → Int32), N - k < mq → k ≤ N → lf ≤ k → h1 m = some (.inr (8, fs)) → h1 mhk = some (xI V 60 hk) → h1 mhn = some (xI V 60 hn) → h1 mof = some (xI V 400 of1) → h1 mce = some (xI V 2400 f1) → xKeep [m, mof, mce] h h1 → mRows of1 f1 lf = (mRows of f k).filter (mKeep hk hn fr kc (nI t1)) → (∀ q, k ≤ q → of1 q = of q) → (∀ q, k * 6 ≤ q → f1 q = f q) → K 0 0 h1 4 [(2, .int (nI k)), (1, .int (nI lf)), (0, .ref m)] [] := by
    intro mq
    induction mq with
    | zero => intro k lf h1 of1 f1 hm hkN hl fm fhk fhn fof fce kp hR hO hF; omega
    | succ mq ih =>
      intro k lf h1 of1 f1 hm hkN hl fm fhk fhn fof fce kp hR hO hF
      have loop2 : ∀ m2 : Nat, ∀ (j : Nat) (h2 : xH) (f2 : Nat → Int32), 6 - j < m2 → j ≤ 6 → k < N → h2 m = some (.inr (8, fs)) → h2 mhk = some (xI V 60 hk) → h2 mhn = some (xI V 60 hn) → h2 mof = some (xI V 400 (upd of1 lf (of k))) → h2 mce = some (xI V 2400 f2) → xKeep [m, mof, mce] h h2 → (∀ q, q < lf * 6 → f2 q = f1 q) → (∀ c, c < j → f2 (lf * 6 + c) = f (k * 6 + c)) → (∀ q, lf * 6 + j ≤ q → f2 q = f1 q) → (mKeep hk hn fr kc (nI t1)) (of k, row6 f (k * 6)) = true → K 0 0 h2 51 [(3, .int (nI j)), (2, .int (nI k)), (1, .int (nI lf)), (0, .ref m)] [] := by
        intro m2
        induction m2 with
        | zero => intro j h2 f2 hm2 hj hk2 fm fhk fhn fof fce kp hA hB hD hkp; omega
        | succ m2 ih2 =>
          intro j h2 f2 hm2 hj hk2 fm fhk fhn fof fce kp hA hB hD hkp
          refine x_iload_n C d_Mo_deletes_51 rfl rfl ?_
          refine x_bipush (v := 6) C d_Mo_deletes_52 (by decide) ?_
          refine x_icmp_ge (tgt := 85) C d_Mo_deletes_54 rfl (fun q54 => ?_) (fun q54 => ?_)
          · skip
            have hj2 : j = 6 := by have := nge_of (b := 6) q54 (by omega); omega
            refine x_iinc (v := nI (lf + 1)) (k0 := 2) (lv' := [(1, _), (3, _), (2, _), (0, _)]) C d_Mo_deletes_85 (by rfl) (nI_1 lf) (by decide) (by rfl) ?_
            refine x_iinc (v := nI (k + 1)) (k0 := 2) (lv' := [(2, _), (1, _), (3, _), (0, _)]) C d_Mo_deletes_88 (by rfl) (nI_1 k) (by decide) (by rfl) ?_
            refine x_goto (tgt := 4) C d_Mo_deletes_91 rfl ?_
            refine x_lv (lv' := [(2, _), (1, _), (0, _)]) [0, 1, 3] C (by rfl) ?_
            first | (refine ih (k + 1) lf _ of1 f1 (by omega) (by omega) (by omega) fm fhk fhn fof fce kp ?_ (fun q hq => hO q (by omega)) (fun q hq => hF q (by omega)); rw [mRows_succ, List.filter_append, List.filter_cons_of_neg (p := (mKeep hk hn fr kc (nI t1))) hkd, hR]; simp; done) | (refine ih (k + 1) (lf + 1) _ (upd of1 lf (of k)) f2 (by omega) (by omega) (by omega) fm fhk fhn fof fce kp ?_ (fun q hq => by rw [pk_un (by omega)]; exact hO q (by omega)) (fun q hq => by rw [hD q (by omega)]; exact hF q (by omega)); rw [mRows_succ, mRows_succ, List.filter_append, List.filter_cons_of_pos (p := (mKeep hk hn fr kc (nI t1))) hkp, ← hR, mRows_eq (of := of1) (f := f1) (fun q hq => pk_un (by omega)) hA, pk_us, row6_eq (o := k * 6) (f := f) (fun c hc => hB c (by omega))]; rfl)
          · skip
            have hj2 := nlt_of (b := 6) q54 (by omega) (by omega)
            refine x_aload_n C d_Mo_deletes_57 rfl rfl ?_
            refine x_get C k_Mo f_Mo_16 d_Mo_deletes_58 fm g_cells ?_
            refine x_bipush (v := 6) C d_Mo_deletes_61 (by decide) ?_
            refine x_iload_n C d_Mo_deletes_63 rfl rfl ?_
            refine x_imul C d_Mo_deletes_64 ?_
            refine x_iload_n C d_Mo_deletes_65 rfl rfl ?_
            refine x_iadd C d_Mo_deletes_66 ?_
            refine x_aload_n C d_Mo_deletes_67 rfl rfl ?_
            refine x_get C k_Mo f_Mo_16 d_Mo_deletes_68 fm g_cells ?_
            refine x_bipush (v := 6) C d_Mo_deletes_71 (by decide) ?_
            refine x_iload_n C d_Mo_deletes_73 rfl rfl ?_
            refine x_imul C d_Mo_deletes_74 ?_
            refine x_iload_n C d_Mo_deletes_75 rfl rfl ?_
            refine x_iadd C d_Mo_deletes_76 ?_
            rw [show (6 : Int32) * nI k + nI j = nI (k * 6 + j) by rw [show (6 : Int32) * nI k = nI (6 * k) from pk_mul 6 k, nI_add, Nat.mul_comm]]
            refine x_iald C d_Mo_deletes_77 fce (vp_in_nI (by omega) (by decide)) ?_
            rw [nI_clamp (by omega), show (6 : Int32) * nI lf + nI j = nI (lf * 6 + j) by rw [show (6 : Int32) * nI lf = nI (6 * lf) from pk_mul 6 lf, nI_add, Nat.mul_comm]]
            refine x_iast C d_Mo_deletes_78 fce (vp_in_nI (by omega) (by decide)) (fun h1 u1 => ?_)
            have fm := xUp_ne u1 fm (by first | assumption | exact Ne.symm (by assumption) | exact x_ne fm fce (by simp))
            have fhk := xUp_ne u1 fhk (by first | assumption | exact Ne.symm (by assumption) | exact x_ne fhk fce (by simp))
            have fhn := xUp_ne u1 fhn (by first | assumption | exact Ne.symm (by assumption) | exact x_ne fhn fce (by simp))
            have fof := xUp_ne u1 fof (by first | assumption | exact Ne.symm (by assumption) | exact x_ne fof fce (by simp))
            have fce := xUp_at u1
            have kp := kp.up u1 (by simp)
            refine x_iinc (v := nI (j + 1)) (k0 := 0) (lv' := [(3, _), (2, _), (1, _), (0, _)]) C d_Mo_deletes_79 (by rfl) (nI_1 j) (by decide) (by rfl) ?_
            refine x_goto (tgt := 51) C d_Mo_deletes_82 rfl ?_
            refine ih2 (j + 1) _ (upd f2 (lf * 6 + j) (f (k * 6 + j))) (by omega) (by omega) hk2 fm fhk fhn fof (by rw [fce, nI_clamp (by omega), hD (k * 6 + j) (by omega), hF (k * 6 + j) (by omega)]) kp (fun q hq => by rw [pk_un (by omega)]; exact hA q hq) (fun c hc => ?_) (fun q hq => by rw [pk_un (by omega)]; exact hD q (by omega)) hkp
            by_cases hcj : c = j
            · subst hcj; exact pk_us
            · rw [pk_un (by omega)]; exact hB c (by omega)
      refine x_iload_n C d_Mo_deletes_4 rfl rfl ?_
      refine x_aload_n C d_Mo_deletes_5 rfl rfl ?_
      refine x_get C k_Mo f_Mo_159 d_Mo_deletes_6 fm g_rows ?_
      refine x_icmp_ge (tgt := 94) C d_Mo_deletes_9 rfl (fun q9 => ?_) (fun q9 => ?_)
      · skip
        have hk2 : k = N := by have := nge_of q9 (by omega); omega
        refine x_aload_n C d_Mo_deletes_94 rfl rfl ?_
        refine x_iload_n C d_Mo_deletes_95 rfl rfl ?_
        refine x_put C k_Mo f_Mo_159 d_Mo_deletes_96 fm (by rfl) (by rfl) (by rfl) (by omega) rfl (fun h2 u2 => ?_)
        have fhk := xUp_ne u2 fhk (by first | assumption | exact Ne.symm (by assumption) | exact x_ne fhk fm (by simp))
        have fhn := xUp_ne u2 fhn (by first | assumption | exact Ne.symm (by assumption) | exact x_ne fhn fm (by simp))
        have fof := xUp_ne u2 fof (by first | assumption | exact Ne.symm (by assumption) | exact x_ne fof fm (by simp))
        have fce := xUp_ne u2 fce (by first | assumption | exact Ne.symm (by assumption) | exact x_ne fce fm (by simp))
        have fm := xUp_at u2
        have kp := kp.up u2 (by simp)
        have g_hadKinds := gs_ne fm g_hadKinds (by decide)
        have g_hadNumbers := gs_ne fm g_hadNumbers (by decide)
        have g_of := gs_ne fm g_of (by decide)
        have g_cells := gs_ne fm g_cells (by decide)
        have g_first := gs_ne fm g_first (by decide)
        have g_from := gs_ne fm g_from (by decide)
        have g_to := gs_ne fm g_to (by decide)
        have g_rows := gs_eq fm hlen (by decide)
        have mu := mu.setF fm (by decide)
        have hlen := gs_len fm hlen
        refine x_iconst (v := 0) C d_Mo_deletes_99 (by decide) ?_
        refine x_iret C d_Mo_deletes_100 ?_
        exact ⟨_, of1, f1, lf, rfl, fm, mu, fof, fce, kp, g_rows, by omega, by rw [← hk2]; exact hR⟩
      · skip
        have hk2 := nlt_of q9 (by omega) (by omega)
        refine x_aload_n C d_Mo_deletes_12 rfl rfl ?_
        refine x_get C k_Mo f_Mo_13 d_Mo_deletes_13 fm g_of ?_
        refine x_iload_n C d_Mo_deletes_16 rfl rfl ?_
        refine x_iald C d_Mo_deletes_17 fof (vp_in_nI (by omega) (by decide)) ?_
        rw [nI_clamp (by omega)]
        refine x_aload_n C d_Mo_deletes_18 rfl rfl ?_
        refine x_get C k_Mo f_Mo_115 d_Mo_deletes_19 fm g_first ?_
        refine x_icmp_ne (tgt := 37) C d_Mo_deletes_22 rfl (fun q22 => ?_) (fun q22 => ?_)
        · skip
          have hkp : (mKeep hk hn fr kc (nI t1)) (of k, row6 f (k * 6)) = true := by show (!(decide (of k = nI t1) && _)) = true; rw [decide_eq_false (by rw [← hO k (Nat.le_refl k)]; exact q22)]; rfl
          refine x_aload_n C d_Mo_deletes_37 rfl rfl ?_
          refine x_get C k_Mo f_Mo_13 d_Mo_deletes_38 fm g_of ?_
          refine x_iload_n C d_Mo_deletes_41 rfl rfl ?_
          refine x_aload_n C d_Mo_deletes_42 rfl rfl ?_
          refine x_get C k_Mo f_Mo_13 d_Mo_deletes_43 fm g_of ?_
          refine x_iload_n C d_Mo_deletes_46 rfl rfl ?_
          refine x_iald C d_Mo_deletes_47 fof (vp_in_nI (by omega) (by decide)) ?_
          rw [nI_clamp (by omega)]
          refine x_iast C d_Mo_deletes_48 fof (vp_in_nI (by omega) (by decide)) (fun h3 u3 => ?_)
          have fm := xUp_ne u3 fm (by first | assumption | exact Ne.symm (by assumption) | exact x_ne fm fof (by simp))
          have fhk := xUp_ne u3 fhk (by first | assumption | exact Ne.symm (by assumption) | exact x_ne fhk fof (by simp))
          have fhn := xUp_ne u3 fhn (by first | assumption | exact Ne.symm (by assumption) | exact x_ne fhn fof (by simp))
          have fce := xUp_ne u3 fce (by first | assumption | exact Ne.symm (by assumption) | exact x_ne fce fof (by simp))
          have fof := xUp_at u3
          have kp := kp.up u3 (by simp)
          refine x_iconst (v := 0) C d_Mo_deletes_49 (by decide) ?_
          refine x_istore_n (lv' := [(3, _), (2, _), (1, _), (0, _)]) C d_Mo_deletes_50 rfl (by decide) (by rfl) ?_
          exact loop2 7 0 _ f1 (by omega) (by omega) hk2 fm fhk fhn (by rw [fof, nI_clamp (by omega), hO k (Nat.le_refl k)]) fce kp (fun _ _ => rfl) lt_0 (fun _ _ => rfl) hkp
        · skip
          refine x_aload_n C d_Mo_deletes_25 rfl rfl ?_
          refine x_iload_n C d_Mo_deletes_26 rfl rfl ?_
          refine x_iload_n C d_Mo_deletes_27 rfl rfl ?_
          refine x_callV C l_Mo_168 v_Mo_holds d_Mo_deletes_28 (m_Mo_holds (a := k) (b := k) fm hlen g_hadKinds g_hadNumbers g_cells fhk fhn fce g_from g_to hFT.2.2.2.2 hFT.2.1 hFT.2.2.1 hFT.2.2.2.1 (fun j hj => ⟨(htk j hj).1.one rfl (by omega), (htk j hj).2.one rfl (by omega)⟩)) fm rfl (by rfl) (by rfl) (by decide) (by decide) (Nat.le_of_ble_eq_true rfl) ?_
          rintro v9 h9 ⟨rfl, rfl⟩
          rw [mHR_eq htk, row6_eq (o := k * 6) (f := f) (fun c _ => hF _ (by omega))]
          refine x_if_eq (tgt := 37) C d_Mo_deletes_31 rfl (fun q31 => ?_) (fun q31 => ?_)
          · skip
            replace q31 := bI_f q31
            have hkp : (mKeep hk hn fr kc (nI t1)) (of k, row6 f (k * 6)) = true := by show (!(_ && mHR hk hn fr kc (row6 f (k * 6)) (row6 f (k * 6)))) = true; rw [q31, Bool.and_false]; rfl
            refine x_aload_n C d_Mo_deletes_37 rfl rfl ?_
            refine x_get C k_Mo f_Mo_13 d_Mo_deletes_38 fm g_of ?_
            refine x_iload_n C d_Mo_deletes_41 rfl rfl ?_
            refine x_aload_n C d_Mo_deletes_42 rfl rfl ?_
            refine x_get C k_Mo f_Mo_13 d_Mo_deletes_43 fm g_of ?_
            refine x_iload_n C d_Mo_deletes_46 rfl rfl ?_
            refine x_iald C d_Mo_deletes_47 fof (vp_in_nI (by omega) (by decide)) ?_
            rw [nI_clamp (by omega)]
            refine x_iast C d_Mo_deletes_48 fof (vp_in_nI (by omega) (by decide)) (fun h4 u4 => ?_)
            have fm := xUp_ne u4 fm (by first | assumption | exact Ne.symm (by assumption) | exact x_ne fm fof (by simp))
            have fhk := xUp_ne u4 fhk (by first | assumption | exact Ne.symm (by assumption) | exact x_ne fhk fof (by simp))
            have fhn := xUp_ne u4 fhn (by first | assumption | exact Ne.symm (by assumption) | exact x_ne fhn fof (by simp))
            have fce := xUp_ne u4 fce (by first | assumption | exact Ne.symm (by assumption) | exact x_ne fce fof (by simp))
            have fof := xUp_at u4
            have kp := kp.up u4 (by simp)
            refine x_iconst (v := 0) C d_Mo_deletes_49 (by decide) ?_
            refine x_istore_n (lv' := [(3, _), (2, _), (1, _), (0, _)]) C d_Mo_deletes_50 rfl (by decide) (by rfl) ?_
            exact loop2 7 0 _ f1 (by omega) (by omega) hk2 fm fhk fhn (by rw [fof, nI_clamp (by omega), hO k (Nat.le_refl k)]) fce kp (fun _ _ => rfl) lt_0 (fun _ _ => rfl) hkp
          · skip
            replace q31 := bI_t q31
            have hkd : ¬ (mKeep hk hn fr kc (nI t1)) (of k, row6 f (k * 6)) = true := by show ¬ (!(decide (of k = nI t1) && mHR hk hn fr kc (row6 f (k * 6)) (row6 f (k * 6)))) = true; rw [q31, decide_eq_true (by rw [← hO k (Nat.le_refl k)]; exact q22)]; decide
            refine x_goto (tgt := 88) C d_Mo_deletes_34 rfl ?_
            refine x_iinc (v := nI (k + 1)) (k0 := 0) (lv' := [(2, _), (1, _), (0, _)]) C d_Mo_deletes_88 (by rfl) (nI_1 k) (by decide) (by rfl) ?_
            refine x_goto (tgt := 4) C d_Mo_deletes_91 rfl ?_
            first | (refine ih (k + 1) lf _ of1 f1 (by omega) (by omega) (by omega) fm fhk fhn fof fce kp ?_ (fun q hq => hO q (by omega)) (fun q hq => hF q (by omega)); rw [mRows_succ, List.filter_append, List.filter_cons_of_neg (p := (mKeep hk hn fr kc (nI t1))) hkd, hR]; simp; done) | (refine ih (k + 1) (lf + 1) _ (upd of1 lf (of k)) f2 (by omega) (by omega) (by omega) fm fhk fhn fof fce kp ?_ (fun q hq => by rw [pk_un (by omega)]; exact hO q (by omega)) (fun q hq => by rw [hD q (by omega)]; exact hF q (by omega)); rw [mRows_succ, mRows_succ, List.filter_append, List.filter_cons_of_pos (p := (mKeep hk hn fr kc (nI t1))) hkp, ← hR, mRows_eq (of := of1) (f := f1) (fun q hq => pk_un (by omega)) hA, pk_us, row6_eq (o := k * 6) (f := f) (fun c hc => hB c (by omega))]; rfl)
  refine x_iconst (v := 0) C d_Mo_deletes_0 (by decide) ?_
  refine x_istore_n (lv' := [(1, _), (0, _)]) C d_Mo_deletes_1 rfl (by decide) (by rfl) ?_
  refine x_iconst (v := 0) C d_Mo_deletes_2 (by decide) ?_
  refine x_istore_n (lv' := [(2, _), (1, _), (0, _)]) C d_Mo_deletes_3 rfl (by decide) (by rfl) ?_
  exact loop (N + 1) 0 0 _ of f (by omega) (by omega) (by omega) fm fhk fhn fof fce kp rfl (fun _ _ => rfl) (fun _ _ => rfl)
set_option maxRecDepth 20000 in
set_option maxHeartbeats 1000000 in
theorem m_Mo_folds1 {V : xV} {h : xH} {mhk mhn mof mce N fr T bb kc : Nat} {hk hn of f : Nat → Int32} {a1 : Int32} {m : Nat} {fs : List Value} (fm : h m = some (.inr (8, fs))) (hlen : fs.length = 29) (g_hadKinds : fs[8]? = some (.ref mhk)) (g_hadNumbers : fs[9]? = some (.ref mhn)) (g_of : fs[2]? = some (.ref mof)) (g_cells : fs[3]? = some (.ref mce)) (g_rows : fs[4]? = some (.int (nI N))) (g_first : fs[12]? = some (.int a1)) (g_second : fs[13]? = some (.int (-1))) (g_from : fs[14]? = some (.int (nI fr))) (g_to : fs[15]? = some (.int (nI T))) (fhk : h mhk = some (xI V 60 hk)) (fhn : h mhn = some (xI V 60 hn)) (fof : h mof = some (xI V 400 of)) (fce : h mce = some (xI V 2400 f)) (hN : N ≤ 400) (hFT : mFT fr T bb kc) (htk : mToks hk hn (-1) fr kc) (hsm : hn 1 = 5 ∨ mTok hk hn (-1) 2) : xM V y_Mo_folds b_Mo_folds 4 none 3 [.ref m] h 0 0 (fun v h' => v = none ∧ ∃ fs', h' m = some (.inr (8, fs')) ∧ mUp [22] fs fs' ∧ xKeep [m] h h' ∧ fs'[22]? = some (.long (mTold hk hn of f a1 (-1) fr kc N))) := by
  refine xM_of false (by decide) (fun h => nomatch h) (Nat.le_of_ble_eq_true rfl) (fun K C => ?_)
  show K 0 0 h 0 [(0, .ref m)] []
  have kp : xKeep [m] h h := xKeep.rf
  have mu : mUp [22] fs fs := mUp.rf
  have hnb : mNb (-1) N = 1 := if_pos rfl
  have loop : ∀ mq : Nat, ∀ (a : Nat) (h1 : xH) (fs1 : List Value), N - a < mq → a ≤ N → h1 m = some (.inr (8, fs1)) → mUp [22] fs fs1 → h1 mhk = some (xI V 60 hk) → h1 mhn = some (xI V 60 hn) → h1 mof = some (xI V 400 of) → h1 mce = some (xI V 2400 f) → xKeep [m] h h1 → fs1[22]? = some (.long (sumRow (fun a => if of a = a1 then sumRow (mW hk hn of f (-1) fr kc a) (mNb (-1) N) else 0) a)) → K 0 0 h1 7 [(1, .int (nI a)), (0, .ref m)] [] := by
    intro mq
    induction mq with
    | zero => intro a h1 fs1 hm ha fm mu fhk fhn fof fce kp g_told; omega
    | succ mq ih =>
      intro a h1 fs1 hm ha fm mu fhk fhn fof fce kp g_told
      have loop2 : ∀ m2 : Nat, ∀ (b : Nat) (h2 : xH) (fs2 : List Value), 1 - b < m2 → b ≤ 1 → a < N → h2 m = some (.inr (8, fs2)) → mUp [22] fs fs2 → h2 mhk = some (xI V 60 hk) → h2 mhn = some (xI V 60 hn) → h2 mof = some (xI V 400 of) → h2 mce = some (xI V 2400 f) → xKeep [m] h h2 → fs2[22]? = some (.long (sumRow (fun a => if of a = a1 then sumRow (mW hk hn of f (-1) fr kc a) (mNb (-1) N) else 0) a + sumRow (mW hk hn of f (-1) fr kc a) b)) → (0 < b → of a = a1) → K 0 0 h2 17 [(2, .int (nI b)), (1, .int (nI a)), (0, .ref m)] [] := by
        intro m2
        induction m2 with
        | zero => intro b h2v fs2 hm2 hb ha2 fm mu fhk fhn fof fce kp g_told hof; omega
        | succ m2 ih2 =>
          intro b h2v fs2 hm2 hb ha2 fm mu fhk fhn fof fce kp g_told hof
          have hlen := mu.1.trans hlen
          have g_hadKinds := mu.get g_hadKinds (by decide)
          have g_hadNumbers := mu.get g_hadNumbers (by decide)
          have g_of := mu.get g_of (by decide)
          have g_cells := mu.get g_cells (by decide)
          have g_rows := mu.get g_rows (by decide)
          have g_first := mu.get g_first (by decide)
          have g_second := mu.get g_second (by decide)
          have g_from := mu.get g_from (by decide)
          have g_to := mu.get g_to (by decide)
          refine x_iload_n C d_Mo_folds_17 rfl rfl ?_
          refine x_aload_n C d_Mo_folds_18 rfl rfl ?_
          refine x_get C k_Mo f_Mo_118 d_Mo_folds_19 fm g_second ?_
          refine x_iconst (v := -1) C d_Mo_folds_22 (by decide) ?_
          refine x_icmp_ne (tgt := 30) C d_Mo_folds_23 rfl (fun q23 => ?_) (fun q23 => ?_)
          · skip
            exact absurd rfl q23
          · skip
            refine x_iconst (v := 1) C d_Mo_folds_26 (by decide) ?_
            refine x_goto (tgt := 34) C d_Mo_folds_27 rfl ?_
            refine x_icmp_ge (tgt := 143) C d_Mo_folds_34 rfl (fun q34 => ?_) (fun q34 => ?_)
            · skip
              have hb2 : b = 1 := by have := nge_of (b := 1) q34 (by omega); omega
              refine x_iinc (v := nI (a + 1)) (k0 := 1) (lv' := [(1, _), (2, _), (0, _)]) C d_Mo_folds_143 (by rfl) (nI_1 a) (by decide) (by rfl) ?_
              refine x_goto (tgt := 7) C d_Mo_folds_146 rfl ?_
              refine x_lv (lv' := [(1, _), (0, _)]) [0, 2] C (by rfl) ?_
              first | exact ih (a + 1) _ _ (by omega) (by omega) fm mu fhk fhn fof fce kp (g_told.trans (congrArg (fun z => some (Value.long z)) (by rw [hb2]; exact (congrArg (fun z => sumRow (fun a => if of a = a1 then sumRow (mW hk hn of f (-1) fr kc a) (mNb (-1) N) else 0) a + sumRow (mW hk hn of f (-1) fr kc a) z) hnb.symm).trans (fold_yes (g := fun a => sumRow (mW hk hn of f (-1) fr kc a) (mNb (-1) N)) (hof (by omega)))))) | exact ih (a + 1) _ _ (by omega) (by omega) fm mu fhk fhn fof fce kp (g_told.trans (congrArg (fun z => some (Value.long z)) (by rw [show b = 0 by (rcases Nat.eq_zero_or_pos b with z | z; exact z; exact absurd (hof z) q47)]; exact fold_no (g := fun a => sumRow (mW hk hn of f (-1) fr kc a) (mNb (-1) N)) q47)))
            · skip
              have hb2 : b < 1 := nlt_of (b := 1) q34 (by omega) (by omega)
              refine x_aload_n C d_Mo_folds_37 rfl rfl ?_
              refine x_get C k_Mo f_Mo_13 d_Mo_folds_38 fm g_of ?_
              refine x_iload_n C d_Mo_folds_41 rfl rfl ?_
              refine x_iald C d_Mo_folds_42 fof (vp_in_nI (by omega) (by decide)) ?_
              rw [nI_clamp (by omega)]
              refine x_aload_n C d_Mo_folds_43 rfl rfl ?_
              refine x_get C k_Mo f_Mo_115 d_Mo_folds_44 fm g_first ?_
              refine x_icmp_ne (tgt := 143) C d_Mo_folds_47 rfl (fun q47 => ?_) (fun q47 => ?_)
              · skip
                refine x_iinc (v := nI (a + 1)) (k0 := 1) (lv' := [(1, _), (2, _), (0, _)]) C d_Mo_folds_143 (by rfl) (nI_1 a) (by decide) (by rfl) ?_
                refine x_goto (tgt := 7) C d_Mo_folds_146 rfl ?_
                refine x_lv (lv' := [(1, _), (0, _)]) [0, 2] C (by rfl) ?_
                first | exact ih (a + 1) _ _ (by omega) (by omega) fm mu fhk fhn fof fce kp (g_told.trans (congrArg (fun z => some (Value.long z)) (by rw [hb2]; exact (congrArg (fun z => sumRow (fun a => if of a = a1 then sumRow (mW hk hn of f (-1) fr kc a) (mNb (-1) N) else 0) a + sumRow (mW hk hn of f (-1) fr kc a) z) hnb.symm).trans (fold_yes (g := fun a => sumRow (mW hk hn of f (-1) fr kc a) (mNb (-1) N)) (hof (by omega)))))) | exact ih (a + 1) _ _ (by omega) (by omega) fm mu fhk fhn fof fce kp (g_told.trans (congrArg (fun z => some (Value.long z)) (by rw [show b = 0 by (rcases Nat.eq_zero_or_pos b with z | z; exact z; exact absurd (hof z) q47)]; exact fold_no (g := fun a => sumRow (mW hk hn of f (-1) fr kc a) (mNb (-1) N)) q47)))
              · skip
                refine x_aload_n C d_Mo_folds_50 rfl rfl ?_
                refine x_get C k_Mo f_Mo_118 d_Mo_folds_51 fm g_second ?_
                refine x_iconst (v := -1) C d_Mo_folds_54 (by decide) ?_
                refine x_icmp_eq (tgt := 71) C d_Mo_folds_55 rfl (fun q55 => ?_) (fun q55 => ?_)
                · skip
                  refine x_aload_n C d_Mo_folds_71 rfl rfl ?_
                  refine x_iload_n C d_Mo_folds_72 rfl rfl ?_
                  refine x_aload_n C d_Mo_folds_73 rfl rfl ?_
                  refine x_get C k_Mo f_Mo_118 d_Mo_folds_74 fm g_second ?_
                  refine x_iconst (v := -1) C d_Mo_folds_77 (by decide) ?_
                  refine x_icmp_ne (tgt := 85) C d_Mo_folds_78 rfl (fun q78 => ?_) (fun q78 => ?_)
                  · skip
                    exact absurd rfl q78
                  · skip
                    refine x_iload_n C d_Mo_folds_81 rfl rfl ?_
                    refine x_goto (tgt := 86) C d_Mo_folds_82 rfl ?_
                    refine x_callV C l_Mo_168 v_Mo_holds d_Mo_folds_86 (m_Mo_holds (a := a) (b := a) fm hlen g_hadKinds g_hadNumbers g_cells fhk fhn fce g_from g_to hFT.2.2.2.2 hFT.2.1 hFT.2.2.1 hFT.2.2.2.1 (fun j hj => ⟨(htk j hj).1.one rfl (by omega), (htk j hj).2.one rfl (by omega)⟩)) fm rfl (by rfl) (by rfl) (by decide) (by decide) (Nat.le_of_ble_eq_true rfl) ?_
                    rintro v9 h9 ⟨rfl, rfl⟩
                    rw [mHR_eq htk]
                    refine x_if_eq (tgt := 96) C d_Mo_folds_89 rfl (fun q89 => ?_) (fun q89 => ?_)
                    · skip
                      replace q89 := bI_f q89
                      refine x_iconst (v := 0) C d_Mo_folds_96 (by decide) ?_
                      refine x_istore_n (lv' := [(3, _), (2, _), (1, _), (0, _)]) C d_Mo_folds_97 rfl (by decide) (by rfl) ?_
                      refine x_aload_n C d_Mo_folds_98 rfl rfl ?_
                      refine x_dup C d_Mo_folds_99 rfl ?_
                      refine x_get C k_Mo f_Mo_172 d_Mo_folds_100 fm g_told ?_
                      refine x_iload_n C d_Mo_folds_103 rfl rfl ?_
                      refine x_if_ne (tgt := 111) C d_Mo_folds_104 rfl (fun q104 => ?_) (fun q104 => ?_)
                      · skip
                        exact absurd q104 (by decide)
                      · skip
                        refine x_lconst (v := 0) C d_Mo_folds_107 (by decide) ?_
                        refine x_goto (tgt := 133) C d_Mo_folds_108 rfl ?_
                        refine x_ladd C d_Mo_folds_133 ?_
                        refine x_put C k_Mo f_Mo_172 d_Mo_folds_134 fm (by rfl) (by rfl) (by rfl) (by omega) rfl (fun h1 u1 => ?_)
                        have fhk := xUp_ne u1 fhk (by first | assumption | exact Ne.symm (by assumption) | exact x_ne fhk fm (by simp))
                        have fhn := xUp_ne u1 fhn (by first | assumption | exact Ne.symm (by assumption) | exact x_ne fhn fm (by simp))
                        have fof := xUp_ne u1 fof (by first | assumption | exact Ne.symm (by assumption) | exact x_ne fof fm (by simp))
                        have fce := xUp_ne u1 fce (by first | assumption | exact Ne.symm (by assumption) | exact x_ne fce fm (by simp))
                        have fm := xUp_at u1
                        have kp := kp.up u1 (by simp)
                        have g_hadKinds := gs_ne fm g_hadKinds (by decide)
                        have g_hadNumbers := gs_ne fm g_hadNumbers (by decide)
                        have g_of := gs_ne fm g_of (by decide)
                        have g_cells := gs_ne fm g_cells (by decide)
                        have g_rows := gs_ne fm g_rows (by decide)
                        have g_first := gs_ne fm g_first (by decide)
                        have g_second := gs_ne fm g_second (by decide)
                        have g_from := gs_ne fm g_from (by decide)
                        have g_to := gs_ne fm g_to (by decide)
                        have g_told := gs_eq fm hlen (by decide)
                        have mu := mu.setF fm (by decide)
                        have hlen := gs_len fm hlen
                        refine x_iinc (v := nI (b + 1)) (k0 := 1) (lv' := [(2, _), (3, _), (1, _), (0, _)]) C d_Mo_folds_137 (by rfl) (nI_1 b) (by decide) (by rfl) ?_
                        refine x_goto (tgt := 17) C d_Mo_folds_140 rfl ?_
                        refine x_lv (lv' := [(2, _), (1, _), (0, _)]) [0, 2, 3] C (by rfl) ?_
                        first | exact ih2 (b + 1) _ _ (by omega) (by omega) ha2 fm mu fhk fhn fof fce kp (g_told.trans (congrArg (fun z => some (Value.long z)) (fold_step (w := mW hk hn of f (-1) fr kc a) (mW_cnt (gd1_yes q89) q118)))) (fun _ => q47) | exact ih2 (b + 1) _ _ (by omega) (by omega) ha2 fm mu fhk fhn fof fce kp (g_told.trans (congrArg (fun z => some (Value.long z)) (fold_step (w := mW hk hn of f (-1) fr kc a) (mW_sum (gd1_yes q89) q118)))) (fun _ => q47) | exact ih2 (b + 1) _ _ (by omega) (by omega) ha2 fm mu fhk fhn fof fce kp (g_told.trans (congrArg (fun z => some (Value.long z)) (fold_step (w := mW hk hn of f (-1) fr kc a) (mW_no (gd1_no q89))))) (fun _ => q47)
                    · skip
                      replace q89 := bI_t q89
                      refine x_iconst (v := 1) C d_Mo_folds_92 (by decide) ?_
                      refine x_goto (tgt := 97) C d_Mo_folds_93 rfl ?_
                      refine x_istore_n (lv' := [(3, _), (2, _), (1, _), (0, _)]) C d_Mo_folds_97 rfl (by decide) (by rfl) ?_
                      refine x_aload_n C d_Mo_folds_98 rfl rfl ?_
                      refine x_dup C d_Mo_folds_99 rfl ?_
                      refine x_get C k_Mo f_Mo_172 d_Mo_folds_100 fm g_told ?_
                      refine x_iload_n C d_Mo_folds_103 rfl rfl ?_
                      refine x_if_ne (tgt := 111) C d_Mo_folds_104 rfl (fun q104 => ?_) (fun q104 => ?_)
                      · skip
                        refine x_aload_n C d_Mo_folds_111 rfl rfl ?_
                        refine x_get C k_Mo f_Mo_28 d_Mo_folds_112 fm g_hadNumbers ?_
                        refine x_iconst (v := 1) C d_Mo_folds_115 (by decide) ?_
                        refine x_iald C d_Mo_folds_116 fhn (vp_in_nI (n := 1) (by decide) (by decide)) ?_
                        rw [show (1 : Int32).toNatClampNeg = 1 by decide]
                        refine x_iconst (v := 5) C d_Mo_folds_117 (by decide) ?_
                        refine x_icmp_ne (tgt := 125) C d_Mo_folds_118 rfl (fun q118 => ?_) (fun q118 => ?_)
                        · skip
                          refine x_aload_n C d_Mo_folds_125 rfl rfl ?_
                          refine x_iconst (v := 2) C d_Mo_folds_126 (by decide) ?_
                          refine x_iload_n C d_Mo_folds_127 rfl rfl ?_
                          refine x_iload_n C d_Mo_folds_128 rfl rfl ?_
                          refine x_callV C l_Mo_155 v_Mo_value d_Mo_folds_129 (m_Mo_value (t := 2) (a := a) (b := b) fm hlen g_hadKinds g_hadNumbers g_cells fhk fhn fce (by omega) ((Or.resolve_left hsm q118).one rfl (by omega))) fm rfl (by rfl) (by rfl) (by decide) (by decide) (Nat.le_of_ble_eq_true rfl) ?_
                          rintro v9 h9 ⟨rfl, rfl⟩
                          refine x_i2l C d_Mo_folds_132 ?_
                          refine x_ladd C d_Mo_folds_133 ?_
                          refine x_put C k_Mo f_Mo_172 d_Mo_folds_134 fm (by rfl) (by rfl) (by rfl) (by omega) rfl (fun h2 u2 => ?_)
                          have fhk := xUp_ne u2 fhk (by first | assumption | exact Ne.symm (by assumption) | exact x_ne fhk fm (by simp))
                          have fhn := xUp_ne u2 fhn (by first | assumption | exact Ne.symm (by assumption) | exact x_ne fhn fm (by simp))
                          have fof := xUp_ne u2 fof (by first | assumption | exact Ne.symm (by assumption) | exact x_ne fof fm (by simp))
                          have fce := xUp_ne u2 fce (by first | assumption | exact Ne.symm (by assumption) | exact x_ne fce fm (by simp))
                          have fm := xUp_at u2
                          have kp := kp.up u2 (by simp)
                          have g_hadKinds := gs_ne fm g_hadKinds (by decide)
                          have g_hadNumbers := gs_ne fm g_hadNumbers (by decide)
                          have g_of := gs_ne fm g_of (by decide)
                          have g_cells := gs_ne fm g_cells (by decide)
                          have g_rows := gs_ne fm g_rows (by decide)
                          have g_first := gs_ne fm g_first (by decide)
                          have g_second := gs_ne fm g_second (by decide)
                          have g_from := gs_ne fm g_from (by decide)
                          have g_to := gs_ne fm g_to (by decide)
                          have g_told := gs_eq fm hlen (by decide)
                          have mu := mu.setF fm (by decide)
                          have hlen := gs_len fm hlen
                          refine x_iinc (v := nI (b + 1)) (k0 := 1) (lv' := [(2, _), (3, _), (1, _), (0, _)]) C d_Mo_folds_137 (by rfl) (nI_1 b) (by decide) (by rfl) ?_
                          refine x_goto (tgt := 17) C d_Mo_folds_140 rfl ?_
                          refine x_lv (lv' := [(2, _), (1, _), (0, _)]) [0, 2, 3] C (by rfl) ?_
                          first | exact ih2 (b + 1) _ _ (by omega) (by omega) ha2 fm mu fhk fhn fof fce kp (g_told.trans (congrArg (fun z => some (Value.long z)) (fold_step (w := mW hk hn of f (-1) fr kc a) (mW_cnt (gd1_yes q89) q118)))) (fun _ => q47) | exact ih2 (b + 1) _ _ (by omega) (by omega) ha2 fm mu fhk fhn fof fce kp (g_told.trans (congrArg (fun z => some (Value.long z)) (fold_step (w := mW hk hn of f (-1) fr kc a) (mW_sum (gd1_yes q89) q118)))) (fun _ => q47) | exact ih2 (b + 1) _ _ (by omega) (by omega) ha2 fm mu fhk fhn fof fce kp (g_told.trans (congrArg (fun z => some (Value.long z)) (fold_step (w := mW hk hn of f (-1) fr kc a) (mW_no (gd1_no q89))))) (fun _ => q47)
                        · skip
                          refine x_lconst (v := 1) C d_Mo_folds_121 (by decide) ?_
                          refine x_goto (tgt := 133) C d_Mo_folds_122 rfl ?_
                          refine x_ladd C d_Mo_folds_133 ?_
                          refine x_put C k_Mo f_Mo_172 d_Mo_folds_134 fm (by rfl) (by rfl) (by rfl) (by omega) rfl (fun h3 u3 => ?_)
                          have fhk := xUp_ne u3 fhk (by first | assumption | exact Ne.symm (by assumption) | exact x_ne fhk fm (by simp))
                          have fhn := xUp_ne u3 fhn (by first | assumption | exact Ne.symm (by assumption) | exact x_ne fhn fm (by simp))
                          have fof := xUp_ne u3 fof (by first | assumption | exact Ne.symm (by assumption) | exact x_ne fof fm (by simp))
                          have fce := xUp_ne u3 fce (by first | assumption | exact Ne.symm (by assumption) | exact x_ne fce fm (by simp))
                          have fm := xUp_at u3
                          have kp := kp.up u3 (by simp)
                          have g_hadKinds := gs_ne fm g_hadKinds (by decide)
                          have g_hadNumbers := gs_ne fm g_hadNumbers (by decide)
                          have g_of := gs_ne fm g_of (by decide)
                          have g_cells := gs_ne fm g_cells (by decide)
                          have g_rows := gs_ne fm g_rows (by decide)
                          have g_first := gs_ne fm g_first (by decide)
                          have g_second := gs_ne fm g_second (by decide)
                          have g_from := gs_ne fm g_from (by decide)
                          have g_to := gs_ne fm g_to (by decide)
                          have g_told := gs_eq fm hlen (by decide)
                          have mu := mu.setF fm (by decide)
                          have hlen := gs_len fm hlen
                          refine x_iinc (v := nI (b + 1)) (k0 := 1) (lv' := [(2, _), (3, _), (1, _), (0, _)]) C d_Mo_folds_137 (by rfl) (nI_1 b) (by decide) (by rfl) ?_
                          refine x_goto (tgt := 17) C d_Mo_folds_140 rfl ?_
                          refine x_lv (lv' := [(2, _), (1, _), (0, _)]) [0, 2, 3] C (by rfl) ?_
                          first | exact ih2 (b + 1) _ _ (by omega) (by omega) ha2 fm mu fhk fhn fof fce kp (g_told.trans (congrArg (fun z => some (Value.long z)) (fold_step (w := mW hk hn of f (-1) fr kc a) (mW_cnt (gd1_yes q89) q118)))) (fun _ => q47) | exact ih2 (b + 1) _ _ (by omega) (by omega) ha2 fm mu fhk fhn fof fce kp (g_told.trans (congrArg (fun z => some (Value.long z)) (fold_step (w := mW hk hn of f (-1) fr kc a) (mW_sum (gd1_yes q89) q118)))) (fun _ => q47) | exact ih2 (b + 1) _ _ (by omega) (by omega) ha2 fm mu fhk fhn fof fce kp (g_told.trans (congrArg (fun z => some (Value.long z)) (fold_step (w := mW hk hn of f (-1) fr kc a) (mW_no (gd1_no q89))))) (fun _ => q47)
                      · skip
                        exact absurd q104 (by decide)
                · skip
                  exact absurd rfl q55
      have hlen := mu.1.trans hlen
      have g_hadKinds := mu.get g_hadKinds (by decide)
      have g_hadNumbers := mu.get g_hadNumbers (by decide)
      have g_of := mu.get g_of (by decide)
      have g_cells := mu.get g_cells (by decide)
      have g_rows := mu.get g_rows (by decide)
      have g_first := mu.get g_first (by decide)
      have g_second := mu.get g_second (by decide)
      have g_from := mu.get g_from (by decide)
      have g_to := mu.get g_to (by decide)
      refine x_iload_n C d_Mo_folds_7 rfl rfl ?_
      refine x_aload_n C d_Mo_folds_8 rfl rfl ?_
      refine x_get C k_Mo f_Mo_159 d_Mo_folds_9 fm g_rows ?_
      refine x_icmp_ge (tgt := 149) C d_Mo_folds_12 rfl (fun q12 => ?_) (fun q12 => ?_)
      · skip
        have ha3 : a = N := by have := nge_of q12 (by omega); omega
        refine x_vret C d_Mo_folds_149 ?_
        exact ⟨rfl, _, fm, mu, kp, by rw [g_told, ha3]; rfl⟩
      · skip
        have ha3 := nlt_of q12 (by omega) (by omega)
        refine x_iconst (v := 0) C d_Mo_folds_15 (by decide) ?_
        refine x_istore_n (lv' := [(2, _), (1, _), (0, _)]) C d_Mo_folds_16 rfl (by decide) (by rfl) ?_
        exact loop2 (N + 2) 0 _ _ (by omega) (by omega) ha3 fm mu fhk fhn fof fce kp (by rw [g_told]; exact congrArg (fun z => some (Value.long z)) (Int64.add_zero _).symm) (fun z => absurd z (by omega))
  refine x_aload_n C d_Mo_folds_0 rfl rfl ?_
  refine x_lconst (v := 0) C d_Mo_folds_1 (by decide) ?_
  refine x_put C k_Mo f_Mo_172 d_Mo_folds_2 fm (by rfl) (by rfl) (by rfl) (by omega) rfl (fun h4 u4 => ?_)
  have fhk := xUp_ne u4 fhk (by first | assumption | exact Ne.symm (by assumption) | exact x_ne fhk fm (by simp))
  have fhn := xUp_ne u4 fhn (by first | assumption | exact Ne.symm (by assumption) | exact x_ne fhn fm (by simp))
  have fof := xUp_ne u4 fof (by first | assumption | exact Ne.symm (by assumption) | exact x_ne fof fm (by simp))
  have fce := xUp_ne u4 fce (by first | assumption | exact Ne.symm (by assumption) | exact x_ne fce fm (by simp))
  have fm := xUp_at u4
  have kp := kp.up u4 (by simp)
  have g_hadKinds := gs_ne fm g_hadKinds (by decide)
  have g_hadNumbers := gs_ne fm g_hadNumbers (by decide)
  have g_of := gs_ne fm g_of (by decide)
  have g_cells := gs_ne fm g_cells (by decide)
  have g_rows := gs_ne fm g_rows (by decide)
  have g_first := gs_ne fm g_first (by decide)
  have g_second := gs_ne fm g_second (by decide)
  have g_from := gs_ne fm g_from (by decide)
  have g_to := gs_ne fm g_to (by decide)
  have g_told := gs_eq fm hlen (by decide)
  have mu := mu.setF fm (by decide)
  have hlen := gs_len fm hlen
  refine x_iconst (v := 0) C d_Mo_folds_5 (by decide) ?_
  refine x_istore_n (lv' := [(1, _), (0, _)]) C d_Mo_folds_6 rfl (by decide) (by rfl) ?_
  exact loop (N + 1) 0 _ _ (by omega) (by omega) fm mu fhk fhn fof fce kp g_told
set_option maxRecDepth 20000 in
set_option maxHeartbeats 1000000 in
theorem m_Mo_folds2 {V : xV} {h : xH} {mhk mhn mof mce N fr T bb kc : Nat} {hk hn of f : Nat → Int32} {a1 a2 : Int32} {m : Nat} {fs : List Value} (fm : h m = some (.inr (8, fs))) (hlen : fs.length = 29) (g_hadKinds : fs[8]? = some (.ref mhk)) (g_hadNumbers : fs[9]? = some (.ref mhn)) (g_of : fs[2]? = some (.ref mof)) (g_cells : fs[3]? = some (.ref mce)) (g_rows : fs[4]? = some (.int (nI N))) (g_first : fs[12]? = some (.int a1)) (g_second : fs[13]? = some (.int a2)) (g_from : fs[14]? = some (.int (nI fr))) (g_to : fs[15]? = some (.int (nI T))) (fhk : h mhk = some (xI V 60 hk)) (fhn : h mhn = some (xI V 60 hn)) (fof : h mof = some (xI V 400 of)) (fce : h mce = some (xI V 2400 f)) (hN : N ≤ 400) (hFT : mFT fr T bb kc) (htk : mToks hk hn a2 fr kc) (hsm : hn 1 = 5 ∨ mTok hk hn a2 2) (hs2 : ¬ a2 = -1) : xM V y_Mo_folds b_Mo_folds 4 none 3 [.ref m] h 0 0 (fun v h' => v = none ∧ ∃ fs', h' m = some (.inr (8, fs')) ∧ mUp [22] fs fs' ∧ xKeep [m] h h' ∧ fs'[22]? = some (.long (mTold hk hn of f a1 a2 fr kc N))) := by
  refine xM_of false (by decide) (fun h => nomatch h) (Nat.le_of_ble_eq_true rfl) (fun K C => ?_)
  show K 0 0 h 0 [(0, .ref m)] []
  have kp : xKeep [m] h h := xKeep.rf
  have mu : mUp [22] fs fs := mUp.rf
  have hnb : mNb a2 N = N := if_neg hs2
  have loop : ∀ mq : Nat, ∀ (a : Nat) (h1 : xH) (fs1 : List Value), N - a < mq → a ≤ N → h1 m = some (.inr (8, fs1)) → mUp [22] fs fs1 → h1 mhk = some (xI V 60 hk) → h1 mhn = some (xI V 60 hn) → h1 mof = some (xI V 400 of) → h1 mce = some (xI V 2400 f) → xKeep [m] h h1 → fs1[22]? = some (.long (sumRow (fun a => if of a = a1 then sumRow (mW hk hn of f a2 fr kc a) (mNb a2 N) else 0) a)) → K 0 0 h1 7 [(1, .int (nI a)), (0, .ref m)] [] := by
    intro mq
    induction mq with
    | zero => intro a h1 fs1 hm ha fm mu fhk fhn fof fce kp g_told; omega
    | succ mq ih =>
      intro a h1 fs1 hm ha fm mu fhk fhn fof fce kp g_told
      have loop2 : ∀ m2 : Nat, ∀ (b : Nat) (h2 : xH) (fs2 : List Value), N - b < m2 → b ≤ N → a < N → h2 m = some (.inr (8, fs2)) → mUp [22] fs fs2 → h2 mhk = some (xI V 60 hk) → h2 mhn = some (xI V 60 hn) → h2 mof = some (xI V 400 of) → h2 mce = some (xI V 2400 f) → xKeep [m] h h2 → fs2[22]? = some (.long (sumRow (fun a => if of a = a1 then sumRow (mW hk hn of f a2 fr kc a) (mNb a2 N) else 0) a + sumRow (mW hk hn of f a2 fr kc a) b)) → (0 < b → of a = a1) → K 0 0 h2 17 [(2, .int (nI b)), (1, .int (nI a)), (0, .ref m)] [] := by
        intro m2
        induction m2 with
        | zero => intro b h2v fs2 hm2 hb ha2 fm mu fhk fhn fof fce kp g_told hof; omega
        | succ m2 ih2 =>
          intro b h2v fs2 hm2 hb ha2 fm mu fhk fhn fof fce kp g_told hof
          have hlen := mu.1.trans hlen
          have g_hadKinds := mu.get g_hadKinds (by decide)
          have g_hadNumbers := mu.get g_hadNumbers (by decide)
          have g_of := mu.get g_of (by decide)
          have g_cells := mu.get g_cells (by decide)
          have g_rows := mu.get g_rows (by decide)
          have g_first := mu.get g_first (by decide)
          have g_second := mu.get g_second (by decide)
          have g_from := mu.get g_from (by decide)
          have g_to := mu.get g_to (by decide)
          refine x_iload_n C d_Mo_folds_17 rfl rfl ?_
          refine x_aload_n C d_Mo_folds_18 rfl rfl ?_
          refine x_get C k_Mo f_Mo_118 d_Mo_folds_19 fm g_second ?_
          refine x_iconst (v := -1) C d_Mo_folds_22 (by decide) ?_
          refine x_icmp_ne (tgt := 30) C d_Mo_folds_23 rfl (fun q23 => ?_) (fun q23 => ?_)
          · skip
            refine x_aload_n C d_Mo_folds_30 rfl rfl ?_
            refine x_get C k_Mo f_Mo_159 d_Mo_folds_31 fm g_rows ?_
            refine x_icmp_ge (tgt := 143) C d_Mo_folds_34 rfl (fun q34 => ?_) (fun q34 => ?_)
            · skip
              have hb2 : b = N := by have := nge_of q34 (by omega); omega
              refine x_iinc (v := nI (a + 1)) (k0 := 1) (lv' := [(1, _), (2, _), (0, _)]) C d_Mo_folds_143 (by rfl) (nI_1 a) (by decide) (by rfl) ?_
              refine x_goto (tgt := 7) C d_Mo_folds_146 rfl ?_
              refine x_lv (lv' := [(1, _), (0, _)]) [0, 2] C (by rfl) ?_
              first | exact ih (a + 1) _ _ (by omega) (by omega) fm mu fhk fhn fof fce kp (g_told.trans (congrArg (fun z => some (Value.long z)) (by rw [hb2]; exact (congrArg (fun z => sumRow (fun a => if of a = a1 then sumRow (mW hk hn of f a2 fr kc a) (mNb a2 N) else 0) a + sumRow (mW hk hn of f a2 fr kc a) z) hnb.symm).trans (fold_yes (g := fun a => sumRow (mW hk hn of f a2 fr kc a) (mNb a2 N)) (hof (by omega)))))) | exact ih (a + 1) _ _ (by omega) (by omega) fm mu fhk fhn fof fce kp (g_told.trans (congrArg (fun z => some (Value.long z)) (by rw [show b = 0 by (rcases Nat.eq_zero_or_pos b with z | z; exact z; exact absurd (hof z) q47)]; exact fold_no (g := fun a => sumRow (mW hk hn of f a2 fr kc a) (mNb a2 N)) q47)))
            · skip
              have hb2 : b < N := nlt_of q34 (by omega) (by omega)
              refine x_aload_n C d_Mo_folds_37 rfl rfl ?_
              refine x_get C k_Mo f_Mo_13 d_Mo_folds_38 fm g_of ?_
              refine x_iload_n C d_Mo_folds_41 rfl rfl ?_
              refine x_iald C d_Mo_folds_42 fof (vp_in_nI (by omega) (by decide)) ?_
              rw [nI_clamp (by omega)]
              refine x_aload_n C d_Mo_folds_43 rfl rfl ?_
              refine x_get C k_Mo f_Mo_115 d_Mo_folds_44 fm g_first ?_
              refine x_icmp_ne (tgt := 143) C d_Mo_folds_47 rfl (fun q47 => ?_) (fun q47 => ?_)
              · skip
                refine x_iinc (v := nI (a + 1)) (k0 := 1) (lv' := [(1, _), (2, _), (0, _)]) C d_Mo_folds_143 (by rfl) (nI_1 a) (by decide) (by rfl) ?_
                refine x_goto (tgt := 7) C d_Mo_folds_146 rfl ?_
                refine x_lv (lv' := [(1, _), (0, _)]) [0, 2] C (by rfl) ?_
                first | exact ih (a + 1) _ _ (by omega) (by omega) fm mu fhk fhn fof fce kp (g_told.trans (congrArg (fun z => some (Value.long z)) (by rw [hb2]; exact (congrArg (fun z => sumRow (fun a => if of a = a1 then sumRow (mW hk hn of f a2 fr kc a) (mNb a2 N) else 0) a + sumRow (mW hk hn of f a2 fr kc a) z) hnb.symm).trans (fold_yes (g := fun a => sumRow (mW hk hn of f a2 fr kc a) (mNb a2 N)) (hof (by omega)))))) | exact ih (a + 1) _ _ (by omega) (by omega) fm mu fhk fhn fof fce kp (g_told.trans (congrArg (fun z => some (Value.long z)) (by rw [show b = 0 by (rcases Nat.eq_zero_or_pos b with z | z; exact z; exact absurd (hof z) q47)]; exact fold_no (g := fun a => sumRow (mW hk hn of f a2 fr kc a) (mNb a2 N)) q47)))
              · skip
                refine x_aload_n C d_Mo_folds_50 rfl rfl ?_
                refine x_get C k_Mo f_Mo_118 d_Mo_folds_51 fm g_second ?_
                refine x_iconst (v := -1) C d_Mo_folds_54 (by decide) ?_
                refine x_icmp_eq (tgt := 71) C d_Mo_folds_55 rfl (fun q55 => ?_) (fun q55 => ?_)
                · skip
                  exact absurd q55 hs2
                · skip
                  refine x_aload_n C d_Mo_folds_58 rfl rfl ?_
                  refine x_get C k_Mo f_Mo_13 d_Mo_folds_59 fm g_of ?_
                  refine x_iload_n C d_Mo_folds_62 rfl rfl ?_
                  refine x_iald C d_Mo_folds_63 fof (vp_in_nI (by omega) (by decide)) ?_
                  rw [nI_clamp (by omega)]
                  refine x_aload_n C d_Mo_folds_64 rfl rfl ?_
                  refine x_get C k_Mo f_Mo_118 d_Mo_folds_65 fm g_second ?_
                  refine x_icmp_ne (tgt := 96) C d_Mo_folds_68 rfl (fun q68 => ?_) (fun q68 => ?_)
                  · skip
                    refine x_iconst (v := 0) C d_Mo_folds_96 (by decide) ?_
                    refine x_istore_n (lv' := [(3, _), (2, _), (1, _), (0, _)]) C d_Mo_folds_97 rfl (by decide) (by rfl) ?_
                    refine x_aload_n C d_Mo_folds_98 rfl rfl ?_
                    refine x_dup C d_Mo_folds_99 rfl ?_
                    refine x_get C k_Mo f_Mo_172 d_Mo_folds_100 fm g_told ?_
                    refine x_iload_n C d_Mo_folds_103 rfl rfl ?_
                    refine x_if_ne (tgt := 111) C d_Mo_folds_104 rfl (fun q104 => ?_) (fun q104 => ?_)
                    · skip
                      exact absurd q104 (by decide)
                    · skip
                      refine x_lconst (v := 0) C d_Mo_folds_107 (by decide) ?_
                      refine x_goto (tgt := 133) C d_Mo_folds_108 rfl ?_
                      refine x_ladd C d_Mo_folds_133 ?_
                      refine x_put C k_Mo f_Mo_172 d_Mo_folds_134 fm (by rfl) (by rfl) (by rfl) (by omega) rfl (fun h1 u1 => ?_)
                      have fhk := xUp_ne u1 fhk (by first | assumption | exact Ne.symm (by assumption) | exact x_ne fhk fm (by simp))
                      have fhn := xUp_ne u1 fhn (by first | assumption | exact Ne.symm (by assumption) | exact x_ne fhn fm (by simp))
                      have fof := xUp_ne u1 fof (by first | assumption | exact Ne.symm (by assumption) | exact x_ne fof fm (by simp))
                      have fce := xUp_ne u1 fce (by first | assumption | exact Ne.symm (by assumption) | exact x_ne fce fm (by simp))
                      have fm := xUp_at u1
                      have kp := kp.up u1 (by simp)
                      have g_hadKinds := gs_ne fm g_hadKinds (by decide)
                      have g_hadNumbers := gs_ne fm g_hadNumbers (by decide)
                      have g_of := gs_ne fm g_of (by decide)
                      have g_cells := gs_ne fm g_cells (by decide)
                      have g_rows := gs_ne fm g_rows (by decide)
                      have g_first := gs_ne fm g_first (by decide)
                      have g_second := gs_ne fm g_second (by decide)
                      have g_from := gs_ne fm g_from (by decide)
                      have g_to := gs_ne fm g_to (by decide)
                      have g_told := gs_eq fm hlen (by decide)
                      have mu := mu.setF fm (by decide)
                      have hlen := gs_len fm hlen
                      refine x_iinc (v := nI (b + 1)) (k0 := 1) (lv' := [(2, _), (3, _), (1, _), (0, _)]) C d_Mo_folds_137 (by rfl) (nI_1 b) (by decide) (by rfl) ?_
                      refine x_goto (tgt := 17) C d_Mo_folds_140 rfl ?_
                      refine x_lv (lv' := [(2, _), (1, _), (0, _)]) [0, 2, 3] C (by rfl) ?_
                      first | exact ih2 (b + 1) _ _ (by omega) (by omega) ha2 fm mu fhk fhn fof fce kp (g_told.trans (congrArg (fun z => some (Value.long z)) (fold_step (w := mW hk hn of f a2 fr kc a) (mW_cnt (gd2_yes hs2 q68 q89) q118)))) (fun _ => q47) | exact ih2 (b + 1) _ _ (by omega) (by omega) ha2 fm mu fhk fhn fof fce kp (g_told.trans (congrArg (fun z => some (Value.long z)) (fold_step (w := mW hk hn of f a2 fr kc a) (mW_sum (gd2_yes hs2 q68 q89) q118)))) (fun _ => q47) | exact ih2 (b + 1) _ _ (by omega) (by omega) ha2 fm mu fhk fhn fof fce kp (g_told.trans (congrArg (fun z => some (Value.long z)) (fold_step (w := mW hk hn of f a2 fr kc a) (mW_no (gd2_no1 hs2 q68))))) (fun _ => q47) | exact ih2 (b + 1) _ _ (by omega) (by omega) ha2 fm mu fhk fhn fof fce kp (g_told.trans (congrArg (fun z => some (Value.long z)) (fold_step (w := mW hk hn of f a2 fr kc a) (mW_no (gd2_no2 hs2 q89))))) (fun _ => q47)
                  · skip
                    refine x_aload_n C d_Mo_folds_71 rfl rfl ?_
                    refine x_iload_n C d_Mo_folds_72 rfl rfl ?_
                    refine x_aload_n C d_Mo_folds_73 rfl rfl ?_
                    refine x_get C k_Mo f_Mo_118 d_Mo_folds_74 fm g_second ?_
                    refine x_iconst (v := -1) C d_Mo_folds_77 (by decide) ?_
                    refine x_icmp_ne (tgt := 85) C d_Mo_folds_78 rfl (fun q78 => ?_) (fun q78 => ?_)
                    · skip
                      refine x_iload_n C d_Mo_folds_85 rfl rfl ?_
                      refine x_callV C l_Mo_168 v_Mo_holds d_Mo_folds_86 (m_Mo_holds (a := a) (b := b) fm hlen g_hadKinds g_hadNumbers g_cells fhk fhn fce g_from g_to hFT.2.2.2.2 hFT.2.1 hFT.2.2.1 hFT.2.2.2.1 (fun j hj => ⟨(htk j hj).1.two rfl (by omega) rfl (by omega), (htk j hj).2.two rfl (by omega) rfl (by omega)⟩)) fm rfl (by rfl) (by rfl) (by decide) (by decide) (Nat.le_of_ble_eq_true rfl) ?_
                      rintro v9 h9 ⟨rfl, rfl⟩
                      rw [mHR_eq htk]
                      refine x_if_eq (tgt := 96) C d_Mo_folds_89 rfl (fun q89 => ?_) (fun q89 => ?_)
                      · skip
                        replace q89 := bI_f q89
                        refine x_iconst (v := 0) C d_Mo_folds_96 (by decide) ?_
                        refine x_istore_n (lv' := [(3, _), (2, _), (1, _), (0, _)]) C d_Mo_folds_97 rfl (by decide) (by rfl) ?_
                        refine x_aload_n C d_Mo_folds_98 rfl rfl ?_
                        refine x_dup C d_Mo_folds_99 rfl ?_
                        refine x_get C k_Mo f_Mo_172 d_Mo_folds_100 fm g_told ?_
                        refine x_iload_n C d_Mo_folds_103 rfl rfl ?_
                        refine x_if_ne (tgt := 111) C d_Mo_folds_104 rfl (fun q104 => ?_) (fun q104 => ?_)
                        · skip
                          exact absurd q104 (by decide)
                        · skip
                          refine x_lconst (v := 0) C d_Mo_folds_107 (by decide) ?_
                          refine x_goto (tgt := 133) C d_Mo_folds_108 rfl ?_
                          refine x_ladd C d_Mo_folds_133 ?_
                          refine x_put C k_Mo f_Mo_172 d_Mo_folds_134 fm (by rfl) (by rfl) (by rfl) (by omega) rfl (fun h2 u2 => ?_)
                          have fhk := xUp_ne u2 fhk (by first | assumption | exact Ne.symm (by assumption) | exact x_ne fhk fm (by simp))
                          have fhn := xUp_ne u2 fhn (by first | assumption | exact Ne.symm (by assumption) | exact x_ne fhn fm (by simp))
                          have fof := xUp_ne u2 fof (by first | assumption | exact Ne.symm (by assumption) | exact x_ne fof fm (by simp))
                          have fce := xUp_ne u2 fce (by first | assumption | exact Ne.symm (by assumption) | exact x_ne fce fm (by simp))
                          have fm := xUp_at u2
                          have kp := kp.up u2 (by simp)
                          have g_hadKinds := gs_ne fm g_hadKinds (by decide)
                          have g_hadNumbers := gs_ne fm g_hadNumbers (by decide)
                          have g_of := gs_ne fm g_of (by decide)
                          have g_cells := gs_ne fm g_cells (by decide)
                          have g_rows := gs_ne fm g_rows (by decide)
                          have g_first := gs_ne fm g_first (by decide)
                          have g_second := gs_ne fm g_second (by decide)
                          have g_from := gs_ne fm g_from (by decide)
                          have g_to := gs_ne fm g_to (by decide)
                          have g_told := gs_eq fm hlen (by decide)
                          have mu := mu.setF fm (by decide)
                          have hlen := gs_len fm hlen
                          refine x_iinc (v := nI (b + 1)) (k0 := 1) (lv' := [(2, _), (3, _), (1, _), (0, _)]) C d_Mo_folds_137 (by rfl) (nI_1 b) (by decide) (by rfl) ?_
                          refine x_goto (tgt := 17) C d_Mo_folds_140 rfl ?_
                          refine x_lv (lv' := [(2, _), (1, _), (0, _)]) [0, 2, 3] C (by rfl) ?_
                          first | exact ih2 (b + 1) _ _ (by omega) (by omega) ha2 fm mu fhk fhn fof fce kp (g_told.trans (congrArg (fun z => some (Value.long z)) (fold_step (w := mW hk hn of f a2 fr kc a) (mW_cnt (gd2_yes hs2 q68 q89) q118)))) (fun _ => q47) | exact ih2 (b + 1) _ _ (by omega) (by omega) ha2 fm mu fhk fhn fof fce kp (g_told.trans (congrArg (fun z => some (Value.long z)) (fold_step (w := mW hk hn of f a2 fr kc a) (mW_sum (gd2_yes hs2 q68 q89) q118)))) (fun _ => q47) | exact ih2 (b + 1) _ _ (by omega) (by omega) ha2 fm mu fhk fhn fof fce kp (g_told.trans (congrArg (fun z => some (Value.long z)) (fold_step (w := mW hk hn of f a2 fr kc a) (mW_no (gd2_no1 hs2 q68))))) (fun _ => q47) | exact ih2 (b + 1) _ _ (by omega) (by omega) ha2 fm mu fhk fhn fof fce kp (g_told.trans (congrArg (fun z => some (Value.long z)) (fold_step (w := mW hk hn of f a2 fr kc a) (mW_no (gd2_no2 hs2 q89))))) (fun _ => q47)
                      · skip
                        replace q89 := bI_t q89
                        refine x_iconst (v := 1) C d_Mo_folds_92 (by decide) ?_
                        refine x_goto (tgt := 97) C d_Mo_folds_93 rfl ?_
                        refine x_istore_n (lv' := [(3, _), (2, _), (1, _), (0, _)]) C d_Mo_folds_97 rfl (by decide) (by rfl) ?_
                        refine x_aload_n C d_Mo_folds_98 rfl rfl ?_
                        refine x_dup C d_Mo_folds_99 rfl ?_
                        refine x_get C k_Mo f_Mo_172 d_Mo_folds_100 fm g_told ?_
                        refine x_iload_n C d_Mo_folds_103 rfl rfl ?_
                        refine x_if_ne (tgt := 111) C d_Mo_folds_104 rfl (fun q104 => ?_) (fun q104 => ?_)
                        · skip
                          refine x_aload_n C d_Mo_folds_111 rfl rfl ?_
                          refine x_get C k_Mo f_Mo_28 d_Mo_folds_112 fm g_hadNumbers ?_
                          refine x_iconst (v := 1) C d_Mo_folds_115 (by decide) ?_
                          refine x_iald C d_Mo_folds_116 fhn (vp_in_nI (n := 1) (by decide) (by decide)) ?_
                          rw [show (1 : Int32).toNatClampNeg = 1 by decide]
                          refine x_iconst (v := 5) C d_Mo_folds_117 (by decide) ?_
                          refine x_icmp_ne (tgt := 125) C d_Mo_folds_118 rfl (fun q118 => ?_) (fun q118 => ?_)
                          · skip
                            refine x_aload_n C d_Mo_folds_125 rfl rfl ?_
                            refine x_iconst (v := 2) C d_Mo_folds_126 (by decide) ?_
                            refine x_iload_n C d_Mo_folds_127 rfl rfl ?_
                            refine x_iload_n C d_Mo_folds_128 rfl rfl ?_
                            refine x_callV C l_Mo_155 v_Mo_value d_Mo_folds_129 (m_Mo_value (t := 2) (a := a) (b := b) fm hlen g_hadKinds g_hadNumbers g_cells fhk fhn fce (by omega) ((Or.resolve_left hsm q118).two rfl (by omega) rfl (by omega))) fm rfl (by rfl) (by rfl) (by decide) (by decide) (Nat.le_of_ble_eq_true rfl) ?_
                            rintro v9 h9 ⟨rfl, rfl⟩
                            refine x_i2l C d_Mo_folds_132 ?_
                            refine x_ladd C d_Mo_folds_133 ?_
                            refine x_put C k_Mo f_Mo_172 d_Mo_folds_134 fm (by rfl) (by rfl) (by rfl) (by omega) rfl (fun h3 u3 => ?_)
                            have fhk := xUp_ne u3 fhk (by first | assumption | exact Ne.symm (by assumption) | exact x_ne fhk fm (by simp))
                            have fhn := xUp_ne u3 fhn (by first | assumption | exact Ne.symm (by assumption) | exact x_ne fhn fm (by simp))
                            have fof := xUp_ne u3 fof (by first | assumption | exact Ne.symm (by assumption) | exact x_ne fof fm (by simp))
                            have fce := xUp_ne u3 fce (by first | assumption | exact Ne.symm (by assumption) | exact x_ne fce fm (by simp))
                            have fm := xUp_at u3
                            have kp := kp.up u3 (by simp)
                            have g_hadKinds := gs_ne fm g_hadKinds (by decide)
                            have g_hadNumbers := gs_ne fm g_hadNumbers (by decide)
                            have g_of := gs_ne fm g_of (by decide)
                            have g_cells := gs_ne fm g_cells (by decide)
                            have g_rows := gs_ne fm g_rows (by decide)
                            have g_first := gs_ne fm g_first (by decide)
                            have g_second := gs_ne fm g_second (by decide)
                            have g_from := gs_ne fm g_from (by decide)
                            have g_to := gs_ne fm g_to (by decide)
                            have g_told := gs_eq fm hlen (by decide)
                            have mu := mu.setF fm (by decide)
                            have hlen := gs_len fm hlen
                            refine x_iinc (v := nI (b + 1)) (k0 := 1) (lv' := [(2, _), (3, _), (1, _), (0, _)]) C d_Mo_folds_137 (by rfl) (nI_1 b) (by decide) (by rfl) ?_
                            refine x_goto (tgt := 17) C d_Mo_folds_140 rfl ?_
                            refine x_lv (lv' := [(2, _), (1, _), (0, _)]) [0, 2, 3] C (by rfl) ?_
                            first | exact ih2 (b + 1) _ _ (by omega) (by omega) ha2 fm mu fhk fhn fof fce kp (g_told.trans (congrArg (fun z => some (Value.long z)) (fold_step (w := mW hk hn of f a2 fr kc a) (mW_cnt (gd2_yes hs2 q68 q89) q118)))) (fun _ => q47) | exact ih2 (b + 1) _ _ (by omega) (by omega) ha2 fm mu fhk fhn fof fce kp (g_told.trans (congrArg (fun z => some (Value.long z)) (fold_step (w := mW hk hn of f a2 fr kc a) (mW_sum (gd2_yes hs2 q68 q89) q118)))) (fun _ => q47) | exact ih2 (b + 1) _ _ (by omega) (by omega) ha2 fm mu fhk fhn fof fce kp (g_told.trans (congrArg (fun z => some (Value.long z)) (fold_step (w := mW hk hn of f a2 fr kc a) (mW_no (gd2_no1 hs2 q68))))) (fun _ => q47) | exact ih2 (b + 1) _ _ (by omega) (by omega) ha2 fm mu fhk fhn fof fce kp (g_told.trans (congrArg (fun z => some (Value.long z)) (fold_step (w := mW hk hn of f a2 fr kc a) (mW_no (gd2_no2 hs2 q89))))) (fun _ => q47)
                          · skip
                            refine x_lconst (v := 1) C d_Mo_folds_121 (by decide) ?_
                            refine x_goto (tgt := 133) C d_Mo_folds_122 rfl ?_
                            refine x_ladd C d_Mo_folds_133 ?_
                            refine x_put C k_Mo f_Mo_172 d_Mo_folds_134 fm (by rfl) (by rfl) (by rfl) (by omega) rfl (fun h4 u4 => ?_)
                            have fhk := xUp_ne u4 fhk (by first | assumption | exact Ne.symm (by assumption) | exact x_ne fhk fm (by simp))
                            have fhn := xUp_ne u4 fhn (by first | assumption | exact Ne.symm (by assumption) | exact x_ne fhn fm (by simp))
                            have fof := xUp_ne u4 fof (by first | assumption | exact Ne.symm (by assumption) | exact x_ne fof fm (by simp))
                            have fce := xUp_ne u4 fce (by first | assumption | exact Ne.symm (by assumption) | exact x_ne fce fm (by simp))
                            have fm := xUp_at u4
                            have kp := kp.up u4 (by simp)
                            have g_hadKinds := gs_ne fm g_hadKinds (by decide)
                            have g_hadNumbers := gs_ne fm g_hadNumbers (by decide)
                            have g_of := gs_ne fm g_of (by decide)
                            have g_cells := gs_ne fm g_cells (by decide)
                            have g_rows := gs_ne fm g_rows (by decide)
                            have g_first := gs_ne fm g_first (by decide)
                            have g_second := gs_ne fm g_second (by decide)
                            have g_from := gs_ne fm g_from (by decide)
                            have g_to := gs_ne fm g_to (by decide)
                            have g_told := gs_eq fm hlen (by decide)
                            have mu := mu.setF fm (by decide)
                            have hlen := gs_len fm hlen
                            refine x_iinc (v := nI (b + 1)) (k0 := 1) (lv' := [(2, _), (3, _), (1, _), (0, _)]) C d_Mo_folds_137 (by rfl) (nI_1 b) (by decide) (by rfl) ?_
                            refine x_goto (tgt := 17) C d_Mo_folds_140 rfl ?_
                            refine x_lv (lv' := [(2, _), (1, _), (0, _)]) [0, 2, 3] C (by rfl) ?_
                            first | exact ih2 (b + 1) _ _ (by omega) (by omega) ha2 fm mu fhk fhn fof fce kp (g_told.trans (congrArg (fun z => some (Value.long z)) (fold_step (w := mW hk hn of f a2 fr kc a) (mW_cnt (gd2_yes hs2 q68 q89) q118)))) (fun _ => q47) | exact ih2 (b + 1) _ _ (by omega) (by omega) ha2 fm mu fhk fhn fof fce kp (g_told.trans (congrArg (fun z => some (Value.long z)) (fold_step (w := mW hk hn of f a2 fr kc a) (mW_sum (gd2_yes hs2 q68 q89) q118)))) (fun _ => q47) | exact ih2 (b + 1) _ _ (by omega) (by omega) ha2 fm mu fhk fhn fof fce kp (g_told.trans (congrArg (fun z => some (Value.long z)) (fold_step (w := mW hk hn of f a2 fr kc a) (mW_no (gd2_no1 hs2 q68))))) (fun _ => q47) | exact ih2 (b + 1) _ _ (by omega) (by omega) ha2 fm mu fhk fhn fof fce kp (g_told.trans (congrArg (fun z => some (Value.long z)) (fold_step (w := mW hk hn of f a2 fr kc a) (mW_no (gd2_no2 hs2 q89))))) (fun _ => q47)
                        · skip
                          exact absurd q104 (by decide)
                    · skip
                      exact absurd q78 hs2
          · skip
            exact absurd q23 hs2
      have hlen := mu.1.trans hlen
      have g_hadKinds := mu.get g_hadKinds (by decide)
      have g_hadNumbers := mu.get g_hadNumbers (by decide)
      have g_of := mu.get g_of (by decide)
      have g_cells := mu.get g_cells (by decide)
      have g_rows := mu.get g_rows (by decide)
      have g_first := mu.get g_first (by decide)
      have g_second := mu.get g_second (by decide)
      have g_from := mu.get g_from (by decide)
      have g_to := mu.get g_to (by decide)
      refine x_iload_n C d_Mo_folds_7 rfl rfl ?_
      refine x_aload_n C d_Mo_folds_8 rfl rfl ?_
      refine x_get C k_Mo f_Mo_159 d_Mo_folds_9 fm g_rows ?_
      refine x_icmp_ge (tgt := 149) C d_Mo_folds_12 rfl (fun q12 => ?_) (fun q12 => ?_)
      · skip
        have ha3 : a = N := by have := nge_of q12 (by omega); omega
        refine x_vret C d_Mo_folds_149 ?_
        exact ⟨rfl, _, fm, mu, kp, by rw [g_told, ha3]; rfl⟩
      · skip
        have ha3 := nlt_of q12 (by omega) (by omega)
        refine x_iconst (v := 0) C d_Mo_folds_15 (by decide) ?_
        refine x_istore_n (lv' := [(2, _), (1, _), (0, _)]) C d_Mo_folds_16 rfl (by decide) (by rfl) ?_
        exact loop2 (N + 2) 0 _ _ (by omega) (by omega) ha3 fm mu fhk fhn fof fce kp (by rw [g_told]; exact congrArg (fun z => some (Value.long z)) (Int64.add_zero _).symm) (fun z => absurd z (by omega))
  refine x_aload_n C d_Mo_folds_0 rfl rfl ?_
  refine x_lconst (v := 0) C d_Mo_folds_1 (by decide) ?_
  refine x_put C k_Mo f_Mo_172 d_Mo_folds_2 fm (by rfl) (by rfl) (by rfl) (by omega) rfl (fun h5 u5 => ?_)
  have fhk := xUp_ne u5 fhk (by first | assumption | exact Ne.symm (by assumption) | exact x_ne fhk fm (by simp))
  have fhn := xUp_ne u5 fhn (by first | assumption | exact Ne.symm (by assumption) | exact x_ne fhn fm (by simp))
  have fof := xUp_ne u5 fof (by first | assumption | exact Ne.symm (by assumption) | exact x_ne fof fm (by simp))
  have fce := xUp_ne u5 fce (by first | assumption | exact Ne.symm (by assumption) | exact x_ne fce fm (by simp))
  have fm := xUp_at u5
  have kp := kp.up u5 (by simp)
  have g_hadKinds := gs_ne fm g_hadKinds (by decide)
  have g_hadNumbers := gs_ne fm g_hadNumbers (by decide)
  have g_of := gs_ne fm g_of (by decide)
  have g_cells := gs_ne fm g_cells (by decide)
  have g_rows := gs_ne fm g_rows (by decide)
  have g_first := gs_ne fm g_first (by decide)
  have g_second := gs_ne fm g_second (by decide)
  have g_from := gs_ne fm g_from (by decide)
  have g_to := gs_ne fm g_to (by decide)
  have g_told := gs_eq fm hlen (by decide)
  have mu := mu.setF fm (by decide)
  have hlen := gs_len fm hlen
  refine x_iconst (v := 0) C d_Mo_folds_5 (by decide) ?_
  refine x_istore_n (lv' := [(1, _), (0, _)]) C d_Mo_folds_6 rfl (by decide) (by rfl) ?_
  exact loop (N + 1) 0 _ _ (by omega) (by omega) fm mu fhk fhn fof fce kp g_told
