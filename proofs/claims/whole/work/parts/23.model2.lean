/-! CursorBaseModel: reading the tokens -/
set_option maxRecDepth 20000 in
set_option maxHeartbeats 1000000 in
theorem m_Mo_readsConditions {V : xV} {h : xH} {mki mnu n p : Nat} {ks ns : Nat → Int32} {m : Nat} {fs : List Value} (fm : h m = some (.inr (8, fs))) (hlen : fs.length = 29) (g_kinds : fs[5]? = some (.ref mki)) (g_numbers : fs[6]? = some (.ref mnu)) (g_pending : fs[7]? = some (.int (nI n))) (g_read : fs[23]? = some (.int (nI p))) (fki : h mki = some (xI V 60 ks)) (fnu : h mnu = some (xI V 60 ns)) (hn60 : n ≤ 60) (hp : p ≤ 60) {tc : Option Nat} (htc : tConds ks ns n 8 8 p = tc) : xM V y_Mo_readsConditions b_Mo_readsConditions 2 (some .boolean) 3 [.ref m] h 0 0 (fun v h' => ∃ fs', h' m = some (.inr (8, fs')) ∧ mUp [23, 26, 27] fs fs' ∧ xKeep [m] h h' ∧ ((tc = none ∧ v = some (.int 0)) ∨ ∃ k fr, tc = some k ∧ v = some (.int 1) ∧ fs'[23]? = some (.int (nI (p + 4 * k))) ∧ fs'[26]? = some (.int (nI fr)) ∧ fs'[27]? = some (.int (nI (p + 4 * k))) ∧ (0 < k → fr = p + 1) ∧ (k = 0 → fr = p) ∧ k ≤ 8 ∧ p + 4 * k ≤ 60)) := by
  refine xM_of false (by decide) (fun h => nomatch h) (Nat.le_of_ble_eq_true rfl) (fun K C => ?_)
  show K 0 0 h 0 [(0, .ref m)] []
  have kp : xKeep [m] h h := xKeep.rf
  have mu : mUp [23, 26, 27] fs fs := mUp.rf
  have loop : ∀ mq : Nat, ∀ (i : Nat) (h1 : xH) (fs1 : List Value), 8 - i < mq → i ≤ 8 → h1 m = some (.inr (8, fs1)) → mUp [23, 26, 27] fs fs1 → h1 mki = some (xI V 60 ks) → h1 mnu = some (xI V 60 ns) → xKeep [m] h h1 → fs1[23]? = some (.int (nI (if i = 0 then p + 1 else p + 4 * i))) → fs1[26]? = some (.int (nI (p + 1))) → fs1[27]? = some (.int (nI (p + 4 * i))) → p + 4 * i ≤ 60 → (i = 0 → tW ks ns n p 8 8 = true) → tc = (tConds ks ns n (8 - i) (if i = 0 then 8 else 9) (p + 4 * i)).map (· + i) → K 0 0 h1 37 [(1, .int (nI i)), (0, .ref m)] [] := by
    intro mq
    induction mq with
    | zero => intro i h1 fs1 hm hi fm mu fki fnu kp g_read g_newFrom g_newTo hpi hw0 hT; omega
    | succ mq ih =>
      intro i h1 fs1 hm hi fm mu fki fnu kp g_read g_newFrom g_newTo hpi hw0 hT
      have hlen := mu.1.trans hlen
      have g_kinds := mu.get g_kinds (by decide)
      have g_numbers := mu.get g_numbers (by decide)
      have g_pending := mu.get g_pending (by decide)
      refine x_iload_n C d_Mo_readsConditions_37 rfl rfl ?_
      refine x_bipush (v := 8) C d_Mo_readsConditions_38 (by decide) ?_
      refine x_icmp_ge (tgt := 115) C d_Mo_readsConditions_40 rfl (fun q40 => ?_) (fun q40 => ?_)
      · skip
        have hi8 : i = 8 := by have := nge_of (b := 8) q40 (by omega); omega
        refine x_iconst (v := 1) C d_Mo_readsConditions_115 (by decide) ?_
        refine x_zret C d_Mo_readsConditions_116 (by rfl) ?_
        refine ⟨_, fm, mu, kp, Or.inr ⟨i, p + 1, ?_, rfl, by rw [if_neg (by omega)] at g_read; exact g_read, g_newFrom, g_newTo, fun _ => rfl, fun z => absurd z (by omega), by omega, by omega⟩⟩
        rw [hT, hi8]
        rfl
      · skip
        have hi8 := nlt_of (b := 8) q40 (by omega) (by omega)
        refine x_iload_n C d_Mo_readsConditions_43 rfl rfl ?_
        refine x_if_le (tgt := 58) C d_Mo_readsConditions_44 rfl (fun q44 => ?_) (fun q44 => ?_)
        · skip
          have hi0 : i = 0 := by
            rcases Nat.eq_zero_or_pos i with z | z
            · exact z
            · exact absurd q44 (nI_nle z (by omega))
          have hW : tW ks ns n (p + 4 * i) (if i = 0 then 8 else 9) (if i = 0 then 8 else 9) = true := by rw [if_pos hi0, hi0]; exact hw0 hi0
          have hpn := (tW_iff.mp hW).1
          rw [if_pos hi0, show p + 1 = p + 4 * i + 1 by omega] at g_read
          refine x_aload_n C d_Mo_readsConditions_58 rfl rfl ?_
          refine x_callV C l_Mo_71 v_Mo_readsOperand d_Mo_readsConditions_59 (m_Mo_readsOperand (p := p + 4 * i + 1) fm hlen g_kinds g_numbers g_pending g_read fki fnu hn60 (by omega)) fm rfl (by rfl) (by rfl) (by decide) (by decide) (Nat.le_of_ble_eq_true rfl) ?_
          rintro v1 h1 ⟨rfl, fs1, fm', mu1, g1_read, kp1⟩
          have fki := kp1.get fki (nm_c (by first | assumption | exact Ne.symm (by assumption) | exact x_ne fki fm (by simp)) nm_n)
          have fnu := kp1.get fnu (nm_c (by first | assumption | exact Ne.symm (by assumption) | exact x_ne fnu fm (by simp)) nm_n)
          have kp := kp.call kp1 (kc_c (Or.inl (by simp)) kc_n)
          have fm := fm'
          have hlen := mu1.1.trans hlen
          have g_kinds := mu1.get g_kinds (by decide)
          have g_numbers := mu1.get g_numbers (by decide)
          have g_pending := mu1.get g_pending (by decide)
          have g_newFrom := mu1.get g_newFrom (by decide)
          have g_newTo := mu1.get g_newTo (by decide)
          have g_read := g1_read
          have mu := mu.tr mu1 (by decide)
          refine x_if_eq (tgt := 99) C d_Mo_readsConditions_62 rfl (fun q62 => ?_) (fun q62 => ?_)
          · skip
            replace q62 := bI_f q62
            refine x_iconst (v := 0) C d_Mo_readsConditions_99 (by decide) ?_
            refine x_zret C d_Mo_readsConditions_100 (by rfl) ?_
            refine ⟨_, fm, mu, kp, Or.inl ⟨?_, rfl⟩⟩
            have hcd : tCond ks ns n (p + 4 * i + 1) = false := by
              unfold tCond
              first | (rw [q62]; rfl) | (rw [tW_cmp, q71, q80, q89]; simp; done) | (rw [q96]; simp; done)
            rw [hT, show 8 - i = (8 - (i + 1)) + 1 by omega, tConds, if_pos hW, if_neg (by rw [hcd]; decide)]
            rfl
          · skip
            replace q62 := bI_t q62
            rw [if_pos q62] at g_read
            have hp1 := tOp_lt q62
            refine x_aload_n C d_Mo_readsConditions_65 rfl rfl ?_
            refine x_bipush (v := 10) C d_Mo_readsConditions_66 (by decide) ?_
            refine x_callV C l_Mo_68 v_Mo_skips d_Mo_readsConditions_68 (m_Mo_skips (p := p + 4 * i + 1 + 1) fm hlen g_kinds g_numbers g_pending g_read fki fnu hn60 (by omega) 10) fm rfl (by rfl) (by rfl) (by decide) (by decide) (Nat.le_of_ble_eq_true rfl) ?_
            rintro v2 h2 ⟨rfl, fs2, fm', mu2, g2_read, kp2⟩
            have fki := kp2.get fki (nm_c (by first | assumption | exact Ne.symm (by assumption) | exact x_ne fki fm (by simp)) nm_n)
            have fnu := kp2.get fnu (nm_c (by first | assumption | exact Ne.symm (by assumption) | exact x_ne fnu fm (by simp)) nm_n)
            have kp := kp.call kp2 (kc_c (Or.inl (by simp)) kc_n)
            have fm := fm'
            have hlen := mu2.1.trans hlen
            have g_kinds := mu2.get g_kinds (by decide)
            have g_numbers := mu2.get g_numbers (by decide)
            have g_pending := mu2.get g_pending (by decide)
            have g_newFrom := mu2.get g_newFrom (by decide)
            have g_newTo := mu2.get g_newTo (by decide)
            have g_read := g2_read
            have mu := mu.tr mu2 (by decide)
            refine x_if_ne (tgt := 92) C d_Mo_readsConditions_71 rfl (fun q71 => ?_) (fun q71 => ?_)
            · skip
              replace q71 := bI_t q71
              rw [if_pos q71] at g_read
              have hcw : tW ks ns n (p + 4 * i + 1 + 1) 10 12 = true := by rw [tW_cmp, q71]; rfl
              have hp2 := (tW_iff.mp hcw).1
              refine x_aload_n C d_Mo_readsConditions_92 rfl rfl ?_
              refine x_callV C l_Mo_71 v_Mo_readsOperand d_Mo_readsConditions_93 (m_Mo_readsOperand (p := p + 4 * i + 1 + 1 + 1) fm hlen g_kinds g_numbers g_pending g_read fki fnu hn60 (by omega)) fm rfl (by rfl) (by rfl) (by decide) (by decide) (Nat.le_of_ble_eq_true rfl) ?_
              rintro v3 h3 ⟨rfl, fs3, fm', mu3, g3_read, kp3⟩
              have fki := kp3.get fki (nm_c (by first | assumption | exact Ne.symm (by assumption) | exact x_ne fki fm (by simp)) nm_n)
              have fnu := kp3.get fnu (nm_c (by first | assumption | exact Ne.symm (by assumption) | exact x_ne fnu fm (by simp)) nm_n)
              have kp := kp.call kp3 (kc_c (Or.inl (by simp)) kc_n)
              have fm := fm'
              have hlen := mu3.1.trans hlen
              have g_kinds := mu3.get g_kinds (by decide)
              have g_numbers := mu3.get g_numbers (by decide)
              have g_pending := mu3.get g_pending (by decide)
              have g_newFrom := mu3.get g_newFrom (by decide)
              have g_newTo := mu3.get g_newTo (by decide)
              have g_read := g3_read
              have mu := mu.tr mu3 (by decide)
              refine x_if_ne (tgt := 101) C d_Mo_readsConditions_96 rfl (fun q96 => ?_) (fun q96 => ?_)
              · skip
                replace q96 := bI_t q96
                rw [if_pos q96] at g_read
                have hp3 := tOp_lt q96
                have hcd : tCond ks ns n (p + 4 * i + 1) = true := tCond_iff.mpr ⟨q62, hcw, q96⟩
                refine x_aload_n C d_Mo_readsConditions_101 rfl rfl ?_
                refine x_aload_n C d_Mo_readsConditions_102 rfl rfl ?_
                refine x_get C k_Mo f_Mo_52 d_Mo_readsConditions_103 fm g_read ?_
                refine x_put C k_Mo f_Mo_65 d_Mo_readsConditions_106 fm (by rfl) (by rfl) (by rfl) (by omega) rfl (fun h4 u4 => ?_)
                have fki := xUp_ne u4 fki (by first | assumption | exact Ne.symm (by assumption) | exact x_ne fki fm (by simp))
                have fnu := xUp_ne u4 fnu (by first | assumption | exact Ne.symm (by assumption) | exact x_ne fnu fm (by simp))
                have fm := xUp_at u4
                have kp := kp.up u4 (by simp)
                have g_kinds := gs_ne fm g_kinds (by decide)
                have g_numbers := gs_ne fm g_numbers (by decide)
                have g_pending := gs_ne fm g_pending (by decide)
                have g_newFrom := gs_ne fm g_newFrom (by decide)
                have g_read := gs_ne fm g_read (by decide)
                have g_newTo := gs_eq fm hlen (by decide)
                have mu := mu.setF fm (by decide)
                have hlen := gs_len fm hlen
                refine x_iinc (v := nI (i + 1)) (k0 := 0) (lv' := [(1, _), (0, _)]) C d_Mo_readsConditions_109 (by rfl) (nI_1 i) (by decide) (by rfl) ?_
                refine x_goto (tgt := 37) C d_Mo_readsConditions_112 rfl ?_
                refine ih (i + 1) _ _ (by omega) (by omega) fm mu fki fnu kp (by rw [if_neg (by omega), g_read]; rfl) g_newFrom (by rw [g_newTo]; rfl) (by omega) (fun z => absurd z (by omega)) ?_
                rw [if_neg (by omega), hT, show 8 - i = (8 - (i + 1)) + 1 by omega, tConds, if_pos hW, if_pos hcd, Option.map_map, show p + 4 * i + 4 = p + 4 * (i + 1) by omega]
                cases tConds ks ns n (8 - (i + 1)) 9 (p + 4 * (i + 1)) with
                | none => rfl
                | some z => exact congrArg some (by show z + 1 + i = z + (i + 1); omega)
              · skip
                replace q96 := bI_f q96
                refine x_iconst (v := 0) C d_Mo_readsConditions_99 (by decide) ?_
                refine x_zret C d_Mo_readsConditions_100 (by rfl) ?_
                refine ⟨_, fm, mu, kp, Or.inl ⟨?_, rfl⟩⟩
                have hcd : tCond ks ns n (p + 4 * i + 1) = false := by
                  unfold tCond
                  first | (rw [q62]; rfl) | (rw [tW_cmp, q71, q80, q89]; simp; done) | (rw [q96]; simp; done)
                rw [hT, show 8 - i = (8 - (i + 1)) + 1 by omega, tConds, if_pos hW, if_neg (by rw [hcd]; decide)]
                rfl
            · skip
              replace q71 := bI_f q71
              rw [if_neg (by rw [q71]; decide)] at g_read
              refine x_aload_n C d_Mo_readsConditions_74 rfl rfl ?_
              refine x_bipush (v := 11) C d_Mo_readsConditions_75 (by decide) ?_
              refine x_callV C l_Mo_68 v_Mo_skips d_Mo_readsConditions_77 (m_Mo_skips (p := p + 4 * i + 1 + 1) fm hlen g_kinds g_numbers g_pending g_read fki fnu hn60 (by omega) 11) fm rfl (by rfl) (by rfl) (by decide) (by decide) (Nat.le_of_ble_eq_true rfl) ?_
              rintro v5 h5 ⟨rfl, fs5, fm', mu5, g5_read, kp5⟩
              have fki := kp5.get fki (nm_c (by first | assumption | exact Ne.symm (by assumption) | exact x_ne fki fm (by simp)) nm_n)
              have fnu := kp5.get fnu (nm_c (by first | assumption | exact Ne.symm (by assumption) | exact x_ne fnu fm (by simp)) nm_n)
              have kp := kp.call kp5 (kc_c (Or.inl (by simp)) kc_n)
              have fm := fm'
              have hlen := mu5.1.trans hlen
              have g_kinds := mu5.get g_kinds (by decide)
              have g_numbers := mu5.get g_numbers (by decide)
              have g_pending := mu5.get g_pending (by decide)
              have g_newFrom := mu5.get g_newFrom (by decide)
              have g_newTo := mu5.get g_newTo (by decide)
              have g_read := g5_read
              have mu := mu.tr mu5 (by decide)
              refine x_if_ne (tgt := 92) C d_Mo_readsConditions_80 rfl (fun q80 => ?_) (fun q80 => ?_)
              · skip
                replace q80 := bI_t q80
                rw [if_pos q80] at g_read
                have hcw : tW ks ns n (p + 4 * i + 1 + 1) 10 12 = true := by rw [tW_cmp, q71, q80]; rfl
                have hp2 := (tW_iff.mp hcw).1
                refine x_aload_n C d_Mo_readsConditions_92 rfl rfl ?_
                refine x_callV C l_Mo_71 v_Mo_readsOperand d_Mo_readsConditions_93 (m_Mo_readsOperand (p := p + 4 * i + 1 + 1 + 1) fm hlen g_kinds g_numbers g_pending g_read fki fnu hn60 (by omega)) fm rfl (by rfl) (by rfl) (by decide) (by decide) (Nat.le_of_ble_eq_true rfl) ?_
                rintro v6 h6 ⟨rfl, fs6, fm', mu6, g6_read, kp6⟩
                have fki := kp6.get fki (nm_c (by first | assumption | exact Ne.symm (by assumption) | exact x_ne fki fm (by simp)) nm_n)
                have fnu := kp6.get fnu (nm_c (by first | assumption | exact Ne.symm (by assumption) | exact x_ne fnu fm (by simp)) nm_n)
                have kp := kp.call kp6 (kc_c (Or.inl (by simp)) kc_n)
                have fm := fm'
                have hlen := mu6.1.trans hlen
                have g_kinds := mu6.get g_kinds (by decide)
                have g_numbers := mu6.get g_numbers (by decide)
                have g_pending := mu6.get g_pending (by decide)
                have g_newFrom := mu6.get g_newFrom (by decide)
                have g_newTo := mu6.get g_newTo (by decide)
                have g_read := g6_read
                have mu := mu.tr mu6 (by decide)
                refine x_if_ne (tgt := 101) C d_Mo_readsConditions_96 rfl (fun q96 => ?_) (fun q96 => ?_)
                · skip
                  replace q96 := bI_t q96
                  rw [if_pos q96] at g_read
                  have hp3 := tOp_lt q96
                  have hcd : tCond ks ns n (p + 4 * i + 1) = true := tCond_iff.mpr ⟨q62, hcw, q96⟩
                  refine x_aload_n C d_Mo_readsConditions_101 rfl rfl ?_
                  refine x_aload_n C d_Mo_readsConditions_102 rfl rfl ?_
                  refine x_get C k_Mo f_Mo_52 d_Mo_readsConditions_103 fm g_read ?_
                  refine x_put C k_Mo f_Mo_65 d_Mo_readsConditions_106 fm (by rfl) (by rfl) (by rfl) (by omega) rfl (fun h7 u7 => ?_)
                  have fki := xUp_ne u7 fki (by first | assumption | exact Ne.symm (by assumption) | exact x_ne fki fm (by simp))
                  have fnu := xUp_ne u7 fnu (by first | assumption | exact Ne.symm (by assumption) | exact x_ne fnu fm (by simp))
                  have fm := xUp_at u7
                  have kp := kp.up u7 (by simp)
                  have g_kinds := gs_ne fm g_kinds (by decide)
                  have g_numbers := gs_ne fm g_numbers (by decide)
                  have g_pending := gs_ne fm g_pending (by decide)
                  have g_newFrom := gs_ne fm g_newFrom (by decide)
                  have g_read := gs_ne fm g_read (by decide)
                  have g_newTo := gs_eq fm hlen (by decide)
                  have mu := mu.setF fm (by decide)
                  have hlen := gs_len fm hlen
                  refine x_iinc (v := nI (i + 1)) (k0 := 0) (lv' := [(1, _), (0, _)]) C d_Mo_readsConditions_109 (by rfl) (nI_1 i) (by decide) (by rfl) ?_
                  refine x_goto (tgt := 37) C d_Mo_readsConditions_112 rfl ?_
                  refine ih (i + 1) _ _ (by omega) (by omega) fm mu fki fnu kp (by rw [if_neg (by omega), g_read]; rfl) g_newFrom (by rw [g_newTo]; rfl) (by omega) (fun z => absurd z (by omega)) ?_
                  rw [if_neg (by omega), hT, show 8 - i = (8 - (i + 1)) + 1 by omega, tConds, if_pos hW, if_pos hcd, Option.map_map, show p + 4 * i + 4 = p + 4 * (i + 1) by omega]
                  cases tConds ks ns n (8 - (i + 1)) 9 (p + 4 * (i + 1)) with
                  | none => rfl
                  | some z => exact congrArg some (by show z + 1 + i = z + (i + 1); omega)
                · skip
                  replace q96 := bI_f q96
                  refine x_iconst (v := 0) C d_Mo_readsConditions_99 (by decide) ?_
                  refine x_zret C d_Mo_readsConditions_100 (by rfl) ?_
                  refine ⟨_, fm, mu, kp, Or.inl ⟨?_, rfl⟩⟩
                  have hcd : tCond ks ns n (p + 4 * i + 1) = false := by
                    unfold tCond
                    first | (rw [q62]; rfl) | (rw [tW_cmp, q71, q80, q89]; simp; done) | (rw [q96]; simp; done)
                  rw [hT, show 8 - i = (8 - (i + 1)) + 1 by omega, tConds, if_pos hW, if_neg (by rw [hcd]; decide)]
                  rfl
              · skip
                replace q80 := bI_f q80
                rw [if_neg (by rw [q80]; decide)] at g_read
                refine x_aload_n C d_Mo_readsConditions_83 rfl rfl ?_
                refine x_bipush (v := 12) C d_Mo_readsConditions_84 (by decide) ?_
                refine x_callV C l_Mo_68 v_Mo_skips d_Mo_readsConditions_86 (m_Mo_skips (p := p + 4 * i + 1 + 1) fm hlen g_kinds g_numbers g_pending g_read fki fnu hn60 (by omega) 12) fm rfl (by rfl) (by rfl) (by decide) (by decide) (Nat.le_of_ble_eq_true rfl) ?_
                rintro v8 h8 ⟨rfl, fs8, fm', mu8, g8_read, kp8⟩
                have fki := kp8.get fki (nm_c (by first | assumption | exact Ne.symm (by assumption) | exact x_ne fki fm (by simp)) nm_n)
                have fnu := kp8.get fnu (nm_c (by first | assumption | exact Ne.symm (by assumption) | exact x_ne fnu fm (by simp)) nm_n)
                have kp := kp.call kp8 (kc_c (Or.inl (by simp)) kc_n)
                have fm := fm'
                have hlen := mu8.1.trans hlen
                have g_kinds := mu8.get g_kinds (by decide)
                have g_numbers := mu8.get g_numbers (by decide)
                have g_pending := mu8.get g_pending (by decide)
                have g_newFrom := mu8.get g_newFrom (by decide)
                have g_newTo := mu8.get g_newTo (by decide)
                have g_read := g8_read
                have mu := mu.tr mu8 (by decide)
                refine x_if_eq (tgt := 99) C d_Mo_readsConditions_89 rfl (fun q89 => ?_) (fun q89 => ?_)
                · skip
                  replace q89 := bI_f q89
                  refine x_iconst (v := 0) C d_Mo_readsConditions_99 (by decide) ?_
                  refine x_zret C d_Mo_readsConditions_100 (by rfl) ?_
                  refine ⟨_, fm, mu, kp, Or.inl ⟨?_, rfl⟩⟩
                  have hcd : tCond ks ns n (p + 4 * i + 1) = false := by
                    unfold tCond
                    first | (rw [q62]; rfl) | (rw [tW_cmp, q71, q80, q89]; simp; done) | (rw [q96]; simp; done)
                  rw [hT, show 8 - i = (8 - (i + 1)) + 1 by omega, tConds, if_pos hW, if_neg (by rw [hcd]; decide)]
                  rfl
                · skip
                  replace q89 := bI_t q89
                  rw [if_pos q89] at g_read
                  have hcw : tW ks ns n (p + 4 * i + 1 + 1) 10 12 = true := by rw [tW_cmp, q71, q80, q89]; rfl
                  have hp2 := (tW_iff.mp hcw).1
                  refine x_aload_n C d_Mo_readsConditions_92 rfl rfl ?_
                  refine x_callV C l_Mo_71 v_Mo_readsOperand d_Mo_readsConditions_93 (m_Mo_readsOperand (p := p + 4 * i + 1 + 1 + 1) fm hlen g_kinds g_numbers g_pending g_read fki fnu hn60 (by omega)) fm rfl (by rfl) (by rfl) (by decide) (by decide) (Nat.le_of_ble_eq_true rfl) ?_
                  rintro v9 h9 ⟨rfl, fs9, fm', mu9, g9_read, kp9⟩
                  have fki := kp9.get fki (nm_c (by first | assumption | exact Ne.symm (by assumption) | exact x_ne fki fm (by simp)) nm_n)
                  have fnu := kp9.get fnu (nm_c (by first | assumption | exact Ne.symm (by assumption) | exact x_ne fnu fm (by simp)) nm_n)
                  have kp := kp.call kp9 (kc_c (Or.inl (by simp)) kc_n)
                  have fm := fm'
                  have hlen := mu9.1.trans hlen
                  have g_kinds := mu9.get g_kinds (by decide)
                  have g_numbers := mu9.get g_numbers (by decide)
                  have g_pending := mu9.get g_pending (by decide)
                  have g_newFrom := mu9.get g_newFrom (by decide)
                  have g_newTo := mu9.get g_newTo (by decide)
                  have g_read := g9_read
                  have mu := mu.tr mu9 (by decide)
                  refine x_if_ne (tgt := 101) C d_Mo_readsConditions_96 rfl (fun q96 => ?_) (fun q96 => ?_)
                  · skip
                    replace q96 := bI_t q96
                    rw [if_pos q96] at g_read
                    have hp3 := tOp_lt q96
                    have hcd : tCond ks ns n (p + 4 * i + 1) = true := tCond_iff.mpr ⟨q62, hcw, q96⟩
                    refine x_aload_n C d_Mo_readsConditions_101 rfl rfl ?_
                    refine x_aload_n C d_Mo_readsConditions_102 rfl rfl ?_
                    refine x_get C k_Mo f_Mo_52 d_Mo_readsConditions_103 fm g_read ?_
                    refine x_put C k_Mo f_Mo_65 d_Mo_readsConditions_106 fm (by rfl) (by rfl) (by rfl) (by omega) rfl (fun h10 u10 => ?_)
                    have fki := xUp_ne u10 fki (by first | assumption | exact Ne.symm (by assumption) | exact x_ne fki fm (by simp))
                    have fnu := xUp_ne u10 fnu (by first | assumption | exact Ne.symm (by assumption) | exact x_ne fnu fm (by simp))
                    have fm := xUp_at u10
                    have kp := kp.up u10 (by simp)
                    have g_kinds := gs_ne fm g_kinds (by decide)
                    have g_numbers := gs_ne fm g_numbers (by decide)
                    have g_pending := gs_ne fm g_pending (by decide)
                    have g_newFrom := gs_ne fm g_newFrom (by decide)
                    have g_read := gs_ne fm g_read (by decide)
                    have g_newTo := gs_eq fm hlen (by decide)
                    have mu := mu.setF fm (by decide)
                    have hlen := gs_len fm hlen
                    refine x_iinc (v := nI (i + 1)) (k0 := 0) (lv' := [(1, _), (0, _)]) C d_Mo_readsConditions_109 (by rfl) (nI_1 i) (by decide) (by rfl) ?_
                    refine x_goto (tgt := 37) C d_Mo_readsConditions_112 rfl ?_
                    refine ih (i + 1) _ _ (by omega) (by omega) fm mu fki fnu kp (by rw [if_neg (by omega), g_read]; rfl) g_newFrom (by rw [g_newTo]; rfl) (by omega) (fun z => absurd z (by omega)) ?_
                    rw [if_neg (by omega), hT, show 8 - i = (8 - (i + 1)) + 1 by omega, tConds, if_pos hW, if_pos hcd, Option.map_map, show p + 4 * i + 4 = p + 4 * (i + 1) by omega]
                    cases tConds ks ns n (8 - (i + 1)) 9 (p + 4 * (i + 1)) with
                    | none => rfl
                    | some z => exact congrArg some (by show z + 1 + i = z + (i + 1); omega)
                  · skip
                    replace q96 := bI_f q96
                    refine x_iconst (v := 0) C d_Mo_readsConditions_99 (by decide) ?_
                    refine x_zret C d_Mo_readsConditions_100 (by rfl) ?_
                    refine ⟨_, fm, mu, kp, Or.inl ⟨?_, rfl⟩⟩
                    have hcd : tCond ks ns n (p + 4 * i + 1) = false := by
                      unfold tCond
                      first | (rw [q62]; rfl) | (rw [tW_cmp, q71, q80, q89]; simp; done) | (rw [q96]; simp; done)
                    rw [hT, show 8 - i = (8 - (i + 1)) + 1 by omega, tConds, if_pos hW, if_neg (by rw [hcd]; decide)]
                    rfl
        · skip
          have hi0 : ¬ i = 0 := fun z => by rw [z] at q44; exact q44 (by decide)
          rw [if_neg hi0] at g_read
          refine x_aload_n C d_Mo_readsConditions_47 rfl rfl ?_
          refine x_bipush (v := 9) C d_Mo_readsConditions_48 (by decide) ?_
          refine x_callV C l_Mo_68 v_Mo_skips d_Mo_readsConditions_50 (m_Mo_skips (p := p + 4 * i) fm hlen g_kinds g_numbers g_pending g_read fki fnu hn60 (by omega) 9) fm rfl (by rfl) (by rfl) (by decide) (by decide) (Nat.le_of_ble_eq_true rfl) ?_
          rintro v11 h11 ⟨rfl, fs11, fm', mu11, g11_read, kp11⟩
          have fki := kp11.get fki (nm_c (by first | assumption | exact Ne.symm (by assumption) | exact x_ne fki fm (by simp)) nm_n)
          have fnu := kp11.get fnu (nm_c (by first | assumption | exact Ne.symm (by assumption) | exact x_ne fnu fm (by simp)) nm_n)
          have kp := kp.call kp11 (kc_c (Or.inl (by simp)) kc_n)
          have fm := fm'
          have hlen := mu11.1.trans hlen
          have g_kinds := mu11.get g_kinds (by decide)
          have g_numbers := mu11.get g_numbers (by decide)
          have g_pending := mu11.get g_pending (by decide)
          have g_newFrom := mu11.get g_newFrom (by decide)
          have g_newTo := mu11.get g_newTo (by decide)
          have g_read := g11_read
          have mu := mu.tr mu11 (by decide)
          refine x_if_ne (tgt := 58) C d_Mo_readsConditions_53 rfl (fun q53 => ?_) (fun q53 => ?_)
          · skip
            replace q53 := bI_t q53
            rw [if_pos q53] at g_read
            have hW : tW ks ns n (p + 4 * i) (if i = 0 then 8 else 9) (if i = 0 then 8 else 9) = true := by rw [if_neg hi0, ← tS_eq]; exact q53
            have hpn := (tW_iff.mp hW).1
            refine x_aload_n C d_Mo_readsConditions_58 rfl rfl ?_
            refine x_callV C l_Mo_71 v_Mo_readsOperand d_Mo_readsConditions_59 (m_Mo_readsOperand (p := p + 4 * i + 1) fm hlen g_kinds g_numbers g_pending g_read fki fnu hn60 (by omega)) fm rfl (by rfl) (by rfl) (by decide) (by decide) (Nat.le_of_ble_eq_true rfl) ?_
            rintro v12 h12 ⟨rfl, fs12, fm', mu12, g12_read, kp12⟩
            have fki := kp12.get fki (nm_c (by first | assumption | exact Ne.symm (by assumption) | exact x_ne fki fm (by simp)) nm_n)
            have fnu := kp12.get fnu (nm_c (by first | assumption | exact Ne.symm (by assumption) | exact x_ne fnu fm (by simp)) nm_n)
            have kp := kp.call kp12 (kc_c (Or.inl (by simp)) kc_n)
            have fm := fm'
            have hlen := mu12.1.trans hlen
            have g_kinds := mu12.get g_kinds (by decide)
            have g_numbers := mu12.get g_numbers (by decide)
            have g_pending := mu12.get g_pending (by decide)
            have g_newFrom := mu12.get g_newFrom (by decide)
            have g_newTo := mu12.get g_newTo (by decide)
            have g_read := g12_read
            have mu := mu.tr mu12 (by decide)
            refine x_if_eq (tgt := 99) C d_Mo_readsConditions_62 rfl (fun q62 => ?_) (fun q62 => ?_)
            · skip
              replace q62 := bI_f q62
              refine x_iconst (v := 0) C d_Mo_readsConditions_99 (by decide) ?_
              refine x_zret C d_Mo_readsConditions_100 (by rfl) ?_
              refine ⟨_, fm, mu, kp, Or.inl ⟨?_, rfl⟩⟩
              have hcd : tCond ks ns n (p + 4 * i + 1) = false := by
                unfold tCond
                first | (rw [q62]; rfl) | (rw [tW_cmp, q71, q80, q89]; simp; done) | (rw [q96]; simp; done)
              rw [hT, show 8 - i = (8 - (i + 1)) + 1 by omega, tConds, if_pos hW, if_neg (by rw [hcd]; decide)]
              rfl
            · skip
              replace q62 := bI_t q62
              rw [if_pos q62] at g_read
              have hp1 := tOp_lt q62
              refine x_aload_n C d_Mo_readsConditions_65 rfl rfl ?_
              refine x_bipush (v := 10) C d_Mo_readsConditions_66 (by decide) ?_
              refine x_callV C l_Mo_68 v_Mo_skips d_Mo_readsConditions_68 (m_Mo_skips (p := p + 4 * i + 1 + 1) fm hlen g_kinds g_numbers g_pending g_read fki fnu hn60 (by omega) 10) fm rfl (by rfl) (by rfl) (by decide) (by decide) (Nat.le_of_ble_eq_true rfl) ?_
              rintro v13 h13 ⟨rfl, fs13, fm', mu13, g13_read, kp13⟩
              have fki := kp13.get fki (nm_c (by first | assumption | exact Ne.symm (by assumption) | exact x_ne fki fm (by simp)) nm_n)
              have fnu := kp13.get fnu (nm_c (by first | assumption | exact Ne.symm (by assumption) | exact x_ne fnu fm (by simp)) nm_n)
              have kp := kp.call kp13 (kc_c (Or.inl (by simp)) kc_n)
              have fm := fm'
              have hlen := mu13.1.trans hlen
              have g_kinds := mu13.get g_kinds (by decide)
              have g_numbers := mu13.get g_numbers (by decide)
              have g_pending := mu13.get g_pending (by decide)
              have g_newFrom := mu13.get g_newFrom (by decide)
              have g_newTo := mu13.get g_newTo (by decide)
              have g_read := g13_read
              have mu := mu.tr mu13 (by decide)
              refine x_if_ne (tgt := 92) C d_Mo_readsConditions_71 rfl (fun q71 => ?_) (fun q71 => ?_)
              · skip
                replace q71 := bI_t q71
                rw [if_pos q71] at g_read
                have hcw : tW ks ns n (p + 4 * i + 1 + 1) 10 12 = true := by rw [tW_cmp, q71]; rfl
                have hp2 := (tW_iff.mp hcw).1
                refine x_aload_n C d_Mo_readsConditions_92 rfl rfl ?_
                refine x_callV C l_Mo_71 v_Mo_readsOperand d_Mo_readsConditions_93 (m_Mo_readsOperand (p := p + 4 * i + 1 + 1 + 1) fm hlen g_kinds g_numbers g_pending g_read fki fnu hn60 (by omega)) fm rfl (by rfl) (by rfl) (by decide) (by decide) (Nat.le_of_ble_eq_true rfl) ?_
                rintro v14 h14 ⟨rfl, fs14, fm', mu14, g14_read, kp14⟩
                have fki := kp14.get fki (nm_c (by first | assumption | exact Ne.symm (by assumption) | exact x_ne fki fm (by simp)) nm_n)
                have fnu := kp14.get fnu (nm_c (by first | assumption | exact Ne.symm (by assumption) | exact x_ne fnu fm (by simp)) nm_n)
                have kp := kp.call kp14 (kc_c (Or.inl (by simp)) kc_n)
                have fm := fm'
                have hlen := mu14.1.trans hlen
                have g_kinds := mu14.get g_kinds (by decide)
                have g_numbers := mu14.get g_numbers (by decide)
                have g_pending := mu14.get g_pending (by decide)
                have g_newFrom := mu14.get g_newFrom (by decide)
                have g_newTo := mu14.get g_newTo (by decide)
                have g_read := g14_read
                have mu := mu.tr mu14 (by decide)
                refine x_if_ne (tgt := 101) C d_Mo_readsConditions_96 rfl (fun q96 => ?_) (fun q96 => ?_)
                · skip
                  replace q96 := bI_t q96
                  rw [if_pos q96] at g_read
                  have hp3 := tOp_lt q96
                  have hcd : tCond ks ns n (p + 4 * i + 1) = true := tCond_iff.mpr ⟨q62, hcw, q96⟩
                  refine x_aload_n C d_Mo_readsConditions_101 rfl rfl ?_
                  refine x_aload_n C d_Mo_readsConditions_102 rfl rfl ?_
                  refine x_get C k_Mo f_Mo_52 d_Mo_readsConditions_103 fm g_read ?_
                  refine x_put C k_Mo f_Mo_65 d_Mo_readsConditions_106 fm (by rfl) (by rfl) (by rfl) (by omega) rfl (fun h15 u15 => ?_)
                  have fki := xUp_ne u15 fki (by first | assumption | exact Ne.symm (by assumption) | exact x_ne fki fm (by simp))
                  have fnu := xUp_ne u15 fnu (by first | assumption | exact Ne.symm (by assumption) | exact x_ne fnu fm (by simp))
                  have fm := xUp_at u15
                  have kp := kp.up u15 (by simp)
                  have g_kinds := gs_ne fm g_kinds (by decide)
                  have g_numbers := gs_ne fm g_numbers (by decide)
                  have g_pending := gs_ne fm g_pending (by decide)
                  have g_newFrom := gs_ne fm g_newFrom (by decide)
                  have g_read := gs_ne fm g_read (by decide)
                  have g_newTo := gs_eq fm hlen (by decide)
                  have mu := mu.setF fm (by decide)
                  have hlen := gs_len fm hlen
                  refine x_iinc (v := nI (i + 1)) (k0 := 0) (lv' := [(1, _), (0, _)]) C d_Mo_readsConditions_109 (by rfl) (nI_1 i) (by decide) (by rfl) ?_
                  refine x_goto (tgt := 37) C d_Mo_readsConditions_112 rfl ?_
                  refine ih (i + 1) _ _ (by omega) (by omega) fm mu fki fnu kp (by rw [if_neg (by omega), g_read]; rfl) g_newFrom (by rw [g_newTo]; rfl) (by omega) (fun z => absurd z (by omega)) ?_
                  rw [if_neg (by omega), hT, show 8 - i = (8 - (i + 1)) + 1 by omega, tConds, if_pos hW, if_pos hcd, Option.map_map, show p + 4 * i + 4 = p + 4 * (i + 1) by omega]
                  cases tConds ks ns n (8 - (i + 1)) 9 (p + 4 * (i + 1)) with
                  | none => rfl
                  | some z => exact congrArg some (by show z + 1 + i = z + (i + 1); omega)
                · skip
                  replace q96 := bI_f q96
                  refine x_iconst (v := 0) C d_Mo_readsConditions_99 (by decide) ?_
                  refine x_zret C d_Mo_readsConditions_100 (by rfl) ?_
                  refine ⟨_, fm, mu, kp, Or.inl ⟨?_, rfl⟩⟩
                  have hcd : tCond ks ns n (p + 4 * i + 1) = false := by
                    unfold tCond
                    first | (rw [q62]; rfl) | (rw [tW_cmp, q71, q80, q89]; simp; done) | (rw [q96]; simp; done)
                  rw [hT, show 8 - i = (8 - (i + 1)) + 1 by omega, tConds, if_pos hW, if_neg (by rw [hcd]; decide)]
                  rfl
              · skip
                replace q71 := bI_f q71
                rw [if_neg (by rw [q71]; decide)] at g_read
                refine x_aload_n C d_Mo_readsConditions_74 rfl rfl ?_
                refine x_bipush (v := 11) C d_Mo_readsConditions_75 (by decide) ?_
                refine x_callV C l_Mo_68 v_Mo_skips d_Mo_readsConditions_77 (m_Mo_skips (p := p + 4 * i + 1 + 1) fm hlen g_kinds g_numbers g_pending g_read fki fnu hn60 (by omega) 11) fm rfl (by rfl) (by rfl) (by decide) (by decide) (Nat.le_of_ble_eq_true rfl) ?_
                rintro v16 h16 ⟨rfl, fs16, fm', mu16, g16_read, kp16⟩
                have fki := kp16.get fki (nm_c (by first | assumption | exact Ne.symm (by assumption) | exact x_ne fki fm (by simp)) nm_n)
                have fnu := kp16.get fnu (nm_c (by first | assumption | exact Ne.symm (by assumption) | exact x_ne fnu fm (by simp)) nm_n)
                have kp := kp.call kp16 (kc_c (Or.inl (by simp)) kc_n)
                have fm := fm'
                have hlen := mu16.1.trans hlen
                have g_kinds := mu16.get g_kinds (by decide)
                have g_numbers := mu16.get g_numbers (by decide)
                have g_pending := mu16.get g_pending (by decide)
                have g_newFrom := mu16.get g_newFrom (by decide)
                have g_newTo := mu16.get g_newTo (by decide)
                have g_read := g16_read
                have mu := mu.tr mu16 (by decide)
                refine x_if_ne (tgt := 92) C d_Mo_readsConditions_80 rfl (fun q80 => ?_) (fun q80 => ?_)
                · skip
                  replace q80 := bI_t q80
                  rw [if_pos q80] at g_read
                  have hcw : tW ks ns n (p + 4 * i + 1 + 1) 10 12 = true := by rw [tW_cmp, q71, q80]; rfl
                  have hp2 := (tW_iff.mp hcw).1
                  refine x_aload_n C d_Mo_readsConditions_92 rfl rfl ?_
                  refine x_callV C l_Mo_71 v_Mo_readsOperand d_Mo_readsConditions_93 (m_Mo_readsOperand (p := p + 4 * i + 1 + 1 + 1) fm hlen g_kinds g_numbers g_pending g_read fki fnu hn60 (by omega)) fm rfl (by rfl) (by rfl) (by decide) (by decide) (Nat.le_of_ble_eq_true rfl) ?_
                  rintro v17 h17 ⟨rfl, fs17, fm', mu17, g17_read, kp17⟩
                  have fki := kp17.get fki (nm_c (by first | assumption | exact Ne.symm (by assumption) | exact x_ne fki fm (by simp)) nm_n)
                  have fnu := kp17.get fnu (nm_c (by first | assumption | exact Ne.symm (by assumption) | exact x_ne fnu fm (by simp)) nm_n)
                  have kp := kp.call kp17 (kc_c (Or.inl (by simp)) kc_n)
                  have fm := fm'
                  have hlen := mu17.1.trans hlen
                  have g_kinds := mu17.get g_kinds (by decide)
                  have g_numbers := mu17.get g_numbers (by decide)
                  have g_pending := mu17.get g_pending (by decide)
                  have g_newFrom := mu17.get g_newFrom (by decide)
                  have g_newTo := mu17.get g_newTo (by decide)
                  have g_read := g17_read
                  have mu := mu.tr mu17 (by decide)
                  refine x_if_ne (tgt := 101) C d_Mo_readsConditions_96 rfl (fun q96 => ?_) (fun q96 => ?_)
                  · skip
                    replace q96 := bI_t q96
                    rw [if_pos q96] at g_read
                    have hp3 := tOp_lt q96
                    have hcd : tCond ks ns n (p + 4 * i + 1) = true := tCond_iff.mpr ⟨q62, hcw, q96⟩
                    refine x_aload_n C d_Mo_readsConditions_101 rfl rfl ?_
                    refine x_aload_n C d_Mo_readsConditions_102 rfl rfl ?_
                    refine x_get C k_Mo f_Mo_52 d_Mo_readsConditions_103 fm g_read ?_
                    refine x_put C k_Mo f_Mo_65 d_Mo_readsConditions_106 fm (by rfl) (by rfl) (by rfl) (by omega) rfl (fun h18 u18 => ?_)
                    have fki := xUp_ne u18 fki (by first | assumption | exact Ne.symm (by assumption) | exact x_ne fki fm (by simp))
                    have fnu := xUp_ne u18 fnu (by first | assumption | exact Ne.symm (by assumption) | exact x_ne fnu fm (by simp))
                    have fm := xUp_at u18
                    have kp := kp.up u18 (by simp)
                    have g_kinds := gs_ne fm g_kinds (by decide)
                    have g_numbers := gs_ne fm g_numbers (by decide)
                    have g_pending := gs_ne fm g_pending (by decide)
                    have g_newFrom := gs_ne fm g_newFrom (by decide)
                    have g_read := gs_ne fm g_read (by decide)
                    have g_newTo := gs_eq fm hlen (by decide)
                    have mu := mu.setF fm (by decide)
                    have hlen := gs_len fm hlen
                    refine x_iinc (v := nI (i + 1)) (k0 := 0) (lv' := [(1, _), (0, _)]) C d_Mo_readsConditions_109 (by rfl) (nI_1 i) (by decide) (by rfl) ?_
                    refine x_goto (tgt := 37) C d_Mo_readsConditions_112 rfl ?_
                    refine ih (i + 1) _ _ (by omega) (by omega) fm mu fki fnu kp (by rw [if_neg (by omega), g_read]; rfl) g_newFrom (by rw [g_newTo]; rfl) (by omega) (fun z => absurd z (by omega)) ?_
                    rw [if_neg (by omega), hT, show 8 - i = (8 - (i + 1)) + 1 by omega, tConds, if_pos hW, if_pos hcd, Option.map_map, show p + 4 * i + 4 = p + 4 * (i + 1) by omega]
                    cases tConds ks ns n (8 - (i + 1)) 9 (p + 4 * (i + 1)) with
                    | none => rfl
                    | some z => exact congrArg some (by show z + 1 + i = z + (i + 1); omega)
                  · skip
                    replace q96 := bI_f q96
                    refine x_iconst (v := 0) C d_Mo_readsConditions_99 (by decide) ?_
                    refine x_zret C d_Mo_readsConditions_100 (by rfl) ?_
                    refine ⟨_, fm, mu, kp, Or.inl ⟨?_, rfl⟩⟩
                    have hcd : tCond ks ns n (p + 4 * i + 1) = false := by
                      unfold tCond
                      first | (rw [q62]; rfl) | (rw [tW_cmp, q71, q80, q89]; simp; done) | (rw [q96]; simp; done)
                    rw [hT, show 8 - i = (8 - (i + 1)) + 1 by omega, tConds, if_pos hW, if_neg (by rw [hcd]; decide)]
                    rfl
                · skip
                  replace q80 := bI_f q80
                  rw [if_neg (by rw [q80]; decide)] at g_read
                  refine x_aload_n C d_Mo_readsConditions_83 rfl rfl ?_
                  refine x_bipush (v := 12) C d_Mo_readsConditions_84 (by decide) ?_
                  refine x_callV C l_Mo_68 v_Mo_skips d_Mo_readsConditions_86 (m_Mo_skips (p := p + 4 * i + 1 + 1) fm hlen g_kinds g_numbers g_pending g_read fki fnu hn60 (by omega) 12) fm rfl (by rfl) (by rfl) (by decide) (by decide) (Nat.le_of_ble_eq_true rfl) ?_
                  rintro v19 h19 ⟨rfl, fs19, fm', mu19, g19_read, kp19⟩
                  have fki := kp19.get fki (nm_c (by first | assumption | exact Ne.symm (by assumption) | exact x_ne fki fm (by simp)) nm_n)
                  have fnu := kp19.get fnu (nm_c (by first | assumption | exact Ne.symm (by assumption) | exact x_ne fnu fm (by simp)) nm_n)
                  have kp := kp.call kp19 (kc_c (Or.inl (by simp)) kc_n)
                  have fm := fm'
                  have hlen := mu19.1.trans hlen
                  have g_kinds := mu19.get g_kinds (by decide)
                  have g_numbers := mu19.get g_numbers (by decide)
                  have g_pending := mu19.get g_pending (by decide)
                  have g_newFrom := mu19.get g_newFrom (by decide)
                  have g_newTo := mu19.get g_newTo (by decide)
                  have g_read := g19_read
                  have mu := mu.tr mu19 (by decide)
                  refine x_if_eq (tgt := 99) C d_Mo_readsConditions_89 rfl (fun q89 => ?_) (fun q89 => ?_)
                  · skip
                    replace q89 := bI_f q89
                    refine x_iconst (v := 0) C d_Mo_readsConditions_99 (by decide) ?_
                    refine x_zret C d_Mo_readsConditions_100 (by rfl) ?_
                    refine ⟨_, fm, mu, kp, Or.inl ⟨?_, rfl⟩⟩
                    have hcd : tCond ks ns n (p + 4 * i + 1) = false := by
                      unfold tCond
                      first | (rw [q62]; rfl) | (rw [tW_cmp, q71, q80, q89]; simp; done) | (rw [q96]; simp; done)
                    rw [hT, show 8 - i = (8 - (i + 1)) + 1 by omega, tConds, if_pos hW, if_neg (by rw [hcd]; decide)]
                    rfl
                  · skip
                    replace q89 := bI_t q89
                    rw [if_pos q89] at g_read
                    have hcw : tW ks ns n (p + 4 * i + 1 + 1) 10 12 = true := by rw [tW_cmp, q71, q80, q89]; rfl
                    have hp2 := (tW_iff.mp hcw).1
                    refine x_aload_n C d_Mo_readsConditions_92 rfl rfl ?_
                    refine x_callV C l_Mo_71 v_Mo_readsOperand d_Mo_readsConditions_93 (m_Mo_readsOperand (p := p + 4 * i + 1 + 1 + 1) fm hlen g_kinds g_numbers g_pending g_read fki fnu hn60 (by omega)) fm rfl (by rfl) (by rfl) (by decide) (by decide) (Nat.le_of_ble_eq_true rfl) ?_
                    rintro v20 h20 ⟨rfl, fs20, fm', mu20, g20_read, kp20⟩
                    have fki := kp20.get fki (nm_c (by first | assumption | exact Ne.symm (by assumption) | exact x_ne fki fm (by simp)) nm_n)
                    have fnu := kp20.get fnu (nm_c (by first | assumption | exact Ne.symm (by assumption) | exact x_ne fnu fm (by simp)) nm_n)
                    have kp := kp.call kp20 (kc_c (Or.inl (by simp)) kc_n)
                    have fm := fm'
                    have hlen := mu20.1.trans hlen
                    have g_kinds := mu20.get g_kinds (by decide)
                    have g_numbers := mu20.get g_numbers (by decide)
                    have g_pending := mu20.get g_pending (by decide)
                    have g_newFrom := mu20.get g_newFrom (by decide)
                    have g_newTo := mu20.get g_newTo (by decide)
                    have g_read := g20_read
                    have mu := mu.tr mu20 (by decide)
                    refine x_if_ne (tgt := 101) C d_Mo_readsConditions_96 rfl (fun q96 => ?_) (fun q96 => ?_)
                    · skip
                      replace q96 := bI_t q96
                      rw [if_pos q96] at g_read
                      have hp3 := tOp_lt q96
                      have hcd : tCond ks ns n (p + 4 * i + 1) = true := tCond_iff.mpr ⟨q62, hcw, q96⟩
                      refine x_aload_n C d_Mo_readsConditions_101 rfl rfl ?_
                      refine x_aload_n C d_Mo_readsConditions_102 rfl rfl ?_
                      refine x_get C k_Mo f_Mo_52 d_Mo_readsConditions_103 fm g_read ?_
                      refine x_put C k_Mo f_Mo_65 d_Mo_readsConditions_106 fm (by rfl) (by rfl) (by rfl) (by omega) rfl (fun h21 u21 => ?_)
                      have fki := xUp_ne u21 fki (by first | assumption | exact Ne.symm (by assumption) | exact x_ne fki fm (by simp))
                      have fnu := xUp_ne u21 fnu (by first | assumption | exact Ne.symm (by assumption) | exact x_ne fnu fm (by simp))
                      have fm := xUp_at u21
                      have kp := kp.up u21 (by simp)
                      have g_kinds := gs_ne fm g_kinds (by decide)
                      have g_numbers := gs_ne fm g_numbers (by decide)
                      have g_pending := gs_ne fm g_pending (by decide)
                      have g_newFrom := gs_ne fm g_newFrom (by decide)
                      have g_read := gs_ne fm g_read (by decide)
                      have g_newTo := gs_eq fm hlen (by decide)
                      have mu := mu.setF fm (by decide)
                      have hlen := gs_len fm hlen
                      refine x_iinc (v := nI (i + 1)) (k0 := 0) (lv' := [(1, _), (0, _)]) C d_Mo_readsConditions_109 (by rfl) (nI_1 i) (by decide) (by rfl) ?_
                      refine x_goto (tgt := 37) C d_Mo_readsConditions_112 rfl ?_
                      refine ih (i + 1) _ _ (by omega) (by omega) fm mu fki fnu kp (by rw [if_neg (by omega), g_read]; rfl) g_newFrom (by rw [g_newTo]; rfl) (by omega) (fun z => absurd z (by omega)) ?_
                      rw [if_neg (by omega), hT, show 8 - i = (8 - (i + 1)) + 1 by omega, tConds, if_pos hW, if_pos hcd, Option.map_map, show p + 4 * i + 4 = p + 4 * (i + 1) by omega]
                      cases tConds ks ns n (8 - (i + 1)) 9 (p + 4 * (i + 1)) with
                      | none => rfl
                      | some z => exact congrArg some (by show z + 1 + i = z + (i + 1); omega)
                    · skip
                      replace q96 := bI_f q96
                      refine x_iconst (v := 0) C d_Mo_readsConditions_99 (by decide) ?_
                      refine x_zret C d_Mo_readsConditions_100 (by rfl) ?_
                      refine ⟨_, fm, mu, kp, Or.inl ⟨?_, rfl⟩⟩
                      have hcd : tCond ks ns n (p + 4 * i + 1) = false := by
                        unfold tCond
                        first | (rw [q62]; rfl) | (rw [tW_cmp, q71, q80, q89]; simp; done) | (rw [q96]; simp; done)
                      rw [hT, show 8 - i = (8 - (i + 1)) + 1 by omega, tConds, if_pos hW, if_neg (by rw [hcd]; decide)]
                      rfl
          · skip
            replace q53 := bI_f q53
            rw [if_neg (by rw [q53]; decide)] at g_read
            refine x_iconst (v := 1) C d_Mo_readsConditions_56 (by decide) ?_
            refine x_zret C d_Mo_readsConditions_57 (by rfl) ?_
            refine ⟨_, fm, mu, kp, Or.inr ⟨i, p + 1, ?_, rfl, g_read, g_newFrom, g_newTo, fun _ => rfl, fun z => absurd z hi0, by omega, by omega⟩⟩
            rw [hT, if_neg hi0, show 8 - i = (8 - (i + 1)) + 1 by omega, tConds, if_neg (by rw [← tS_eq, q53]; decide)]
            exact congrArg some (Nat.zero_add i)
  refine x_aload_n C d_Mo_readsConditions_0 rfl rfl ?_
  refine x_aload_n C d_Mo_readsConditions_1 rfl rfl ?_
  refine x_get C k_Mo f_Mo_52 d_Mo_readsConditions_2 fm g_read ?_
  refine x_put C k_Mo f_Mo_62 d_Mo_readsConditions_5 fm (by rfl) (by rfl) (by rfl) (by omega) rfl (fun h22 u22 => ?_)
  have fki := xUp_ne u22 fki (by first | assumption | exact Ne.symm (by assumption) | exact x_ne fki fm (by simp))
  have fnu := xUp_ne u22 fnu (by first | assumption | exact Ne.symm (by assumption) | exact x_ne fnu fm (by simp))
  have fm := xUp_at u22
  have kp := kp.up u22 (by simp)
  have g_kinds := gs_ne fm g_kinds (by decide)
  have g_numbers := gs_ne fm g_numbers (by decide)
  have g_pending := gs_ne fm g_pending (by decide)
  have g_read := gs_ne fm g_read (by decide)
  have g_newFrom := gs_eq fm hlen (by decide)
  have mu := mu.setF fm (by decide)
  have hlen := gs_len fm hlen
  refine x_aload_n C d_Mo_readsConditions_8 rfl rfl ?_
  refine x_aload_n C d_Mo_readsConditions_9 rfl rfl ?_
  refine x_get C k_Mo f_Mo_52 d_Mo_readsConditions_10 fm g_read ?_
  refine x_put C k_Mo f_Mo_65 d_Mo_readsConditions_13 fm (by rfl) (by rfl) (by rfl) (by omega) rfl (fun h23 u23 => ?_)
  have fki := xUp_ne u23 fki (by first | assumption | exact Ne.symm (by assumption) | exact x_ne fki fm (by simp))
  have fnu := xUp_ne u23 fnu (by first | assumption | exact Ne.symm (by assumption) | exact x_ne fnu fm (by simp))
  have fm := xUp_at u23
  have kp := kp.up u23 (by simp)
  have g_kinds := gs_ne fm g_kinds (by decide)
  have g_numbers := gs_ne fm g_numbers (by decide)
  have g_pending := gs_ne fm g_pending (by decide)
  have g_read := gs_ne fm g_read (by decide)
  have g_newFrom := gs_ne fm g_newFrom (by decide)
  have g_newTo := gs_eq fm hlen (by decide)
  have mu := mu.setF fm (by decide)
  have hlen := gs_len fm hlen
  refine x_aload_n C d_Mo_readsConditions_16 rfl rfl ?_
  refine x_bipush (v := 8) C d_Mo_readsConditions_17 (by decide) ?_
  refine x_callV C l_Mo_68 v_Mo_skips d_Mo_readsConditions_19 (m_Mo_skips (p := p) fm hlen g_kinds g_numbers g_pending g_read fki fnu hn60 hp 8) fm rfl (by rfl) (by rfl) (by decide) (by decide) (Nat.le_of_ble_eq_true rfl) ?_
  rintro v24 h24 ⟨rfl, fs24, fm', mu24, g24_read, kp24⟩
  have fki := kp24.get fki (nm_c (by first | assumption | exact Ne.symm (by assumption) | exact x_ne fki fm (by simp)) nm_n)
  have fnu := kp24.get fnu (nm_c (by first | assumption | exact Ne.symm (by assumption) | exact x_ne fnu fm (by simp)) nm_n)
  have kp := kp.call kp24 (kc_c (Or.inl (by simp)) kc_n)
  have fm := fm'
  have hlen := mu24.1.trans hlen
  have g_kinds := mu24.get g_kinds (by decide)
  have g_numbers := mu24.get g_numbers (by decide)
  have g_pending := mu24.get g_pending (by decide)
  have g_newFrom := mu24.get g_newFrom (by decide)
  have g_newTo := mu24.get g_newTo (by decide)
  have g_read := g24_read
  have mu := mu.tr mu24 (by decide)
  refine x_if_ne (tgt := 27) C d_Mo_readsConditions_22 rfl (fun q22 => ?_) (fun q22 => ?_)
  · skip
    replace q22 := bI_t q22
    rw [if_pos q22] at g_read
    refine x_aload_n C d_Mo_readsConditions_27 rfl rfl ?_
    refine x_aload_n C d_Mo_readsConditions_28 rfl rfl ?_
    refine x_get C k_Mo f_Mo_52 d_Mo_readsConditions_29 fm g_read ?_
    refine x_put C k_Mo f_Mo_62 d_Mo_readsConditions_32 fm (by rfl) (by rfl) (by rfl) (by omega) rfl (fun h25 u25 => ?_)
    have fki := xUp_ne u25 fki (by first | assumption | exact Ne.symm (by assumption) | exact x_ne fki fm (by simp))
    have fnu := xUp_ne u25 fnu (by first | assumption | exact Ne.symm (by assumption) | exact x_ne fnu fm (by simp))
    have fm := xUp_at u25
    have kp := kp.up u25 (by simp)
    have g_kinds := gs_ne fm g_kinds (by decide)
    have g_numbers := gs_ne fm g_numbers (by decide)
    have g_pending := gs_ne fm g_pending (by decide)
    have g_newTo := gs_ne fm g_newTo (by decide)
    have g_read := gs_ne fm g_read (by decide)
    have g_newFrom := gs_eq fm hlen (by decide)
    have mu := mu.setF fm (by decide)
    have hlen := gs_len fm hlen
    refine x_iconst (v := 0) C d_Mo_readsConditions_35 (by decide) ?_
    refine x_istore_n (lv' := [(1, _), (0, _)]) C d_Mo_readsConditions_36 rfl (by decide) (by rfl) ?_
    have hpn := (tW_iff.mp (by rw [← tS_eq]; exact q22 : tW ks ns n p 8 8 = true)).1
    exact loop 9 0 _ _ (by omega) (by omega) fm mu fki fnu kp (by rw [g_read]; rfl) g_newFrom g_newTo (by omega) (fun _ => by rw [← tS_eq]; exact q22) (by rw [← htc]; simp)
  · skip
    replace q22 := bI_f q22
    rw [if_neg (by rw [q22]; decide)] at g_read
    refine x_iconst (v := 1) C d_Mo_readsConditions_25 (by decide) ?_
    refine x_zret C d_Mo_readsConditions_26 (by rfl) ?_
    refine ⟨_, fm, mu, kp, Or.inr ⟨0, p, ?_, rfl, g_read, g_newFrom, g_newTo, fun z => absurd z (by omega), fun _ => rfl, by omega, by omega⟩⟩
    rw [← htc, tConds, if_neg (by rw [← tS_eq, q22]; decide)]
set_option maxRecDepth 20000 in
set_option maxHeartbeats 1000000 in
theorem m_Mo_readsList {V : xV} {h : xH} {mki mnu n p : Nat} {ks ns : Nat → Int32} {m : Nat} {fs : List Value} (fm : h m = some (.inr (8, fs))) (hlen : fs.length = 29) (g_kinds : fs[5]? = some (.ref mki)) (g_numbers : fs[6]? = some (.ref mnu)) (g_pending : fs[7]? = some (.int (nI n))) (g_read : fs[23]? = some (.int (nI p))) (fki : h mki = some (xI V 60 ks)) (fnu : h mnu = some (xI V 60 ns)) (hn60 : n ≤ 60) (hp : p ≤ 60) : xM V y_Mo_readsList b_Mo_readsList 3 (some .boolean) 3 [.ref m] h 0 0 (fun v h' => ∃ fs', h' m = some (.inr (8, fs')) ∧ mUp [23] fs fs' ∧ xKeep [m] h h' ∧ ((v = some (.int 0) ∧ tSel ks ns n (tLst ks ns n p) = none) ∨ (v = some (.int 1) ∧ (tLst ks ns n p).1 = true ∧ fs'[23]? = some (.int (nI (tLst ks ns n p).2.2.1)) ∧ (tLst ks ns n p).2.2.1 ≤ 60))) := by
  refine xM_of false (by decide) (fun h => nomatch h) (Nat.le_of_ble_eq_true rfl) (fun K C => ?_)
  show K 0 0 h 0 [(0, .ref m)] []
  have kp : xKeep [m] h h := xKeep.rf
  have mu : mUp [23] fs fs := mUp.rf
  have loop : ∀ mq : Nat, ∀ (i p1 : Nat) (sb : Bool) (h1 : xH) (fs1 : List Value), 60 - (p1 + i) < mq → p1 + i ≤ 60 → h1 m = some (.inr (8, fs1)) → mUp [23] fs fs1 → h1 mki = some (xI V 60 ks) → h1 mnu = some (xI V 60 ns) → xKeep [m] h h1 → fs1[23]? = some (.int (nI (p1 + i))) → (∀ j, j < i → tK ks n (p1 + j) 2 = true) → (sb = true → tLst ks ns n p = (decide (0 < tRun ks n 2 1 p1), tRun ks n 2 1 p1, p1 + tRun ks n 2 1 p1, 6)) → (sb = false → tLst ks ns n p = (decide (0 < tRun ks n 2 8 p1), tRun ks n 2 8 p1, p1 + tRun ks n 2 8 p1, -1)) → K 0 0 h1 27 [(2, .int (nI i)), (1, .int (bI sb)), (0, .ref m)] [] := by
    intro mq
    induction mq with
    | zero => intro i p1 sb h1 fs1 hm hpi fm mu fki fnu kp g_read hrun hl1 hl8; omega
    | succ mq ih =>
      intro i p1 sb h1 fs1 hm hpi fm mu fki fnu kp g_read hrun hl1 hl8
      have hlen := mu.1.trans hlen
      have g_kinds := mu.get g_kinds (by decide)
      have g_numbers := mu.get g_numbers (by decide)
      have g_pending := mu.get g_pending (by decide)
      refine x_aload_n C d_Mo_readsList_27 rfl rfl ?_
      refine x_iconst (v := 2) C d_Mo_readsList_28 (by decide) ?_
      refine x_callV C l_Mo_55 v_Mo_isKind d_Mo_readsList_29 (m_Mo_isKind (p := p1 + i) fm hlen g_kinds g_numbers g_pending g_read fki fnu hn60 hpi 2) fm rfl (by rfl) (by rfl) (by decide) (by decide) (Nat.le_of_ble_eq_true rfl) ?_
      rintro v9 h9 ⟨rfl, rfl⟩
      refine x_if_eq (tgt := 51) C d_Mo_readsList_32 rfl (fun q32 => ?_) (fun q32 => ?_)
      · skip
        replace q32 := bI_f q32
        refine x_iload_n C d_Mo_readsList_51 rfl rfl ?_
        refine x_if_eq (tgt := 68) C d_Mo_readsList_52 rfl (fun q52 => ?_) (fun q52 => ?_)
        · skip
          replace q52 := bI_f q52
          refine x_iload_n C d_Mo_readsList_68 rfl rfl ?_
          refine x_iconst (v := 1) C d_Mo_readsList_69 (by decide) ?_
          refine x_icmp_lt (tgt := 83) C d_Mo_readsList_70 rfl (fun q70 => ?_) (fun q70 => ?_)
          · skip
            have hi1 : i < 1 := llt_of (b := 1) q70 (by omega)
            refine x_iconst (v := 0) C d_Mo_readsList_83 (by decide) ?_
            refine x_zret C d_Mo_readsList_84 (by rfl) ?_
            first | exact ⟨_, fm, mu, kp, Or.inl ⟨rfl, tl_no (hl1 q52) hrun q32 (by omega)⟩⟩ | exact ⟨_, fm, mu, kp, Or.inr ⟨rfl, (tl_yes (hl1 q52) hrun q32 (by omega) (by omega)).1, by rw [(tl_yes (hl1 q52) hrun q32 (by omega) (by omega)).2]; exact g_read, by rw [(tl_yes (hl1 q52) hrun q32 (by omega) (by omega)).2]; omega⟩⟩ | exact ⟨_, fm, mu, kp, Or.inl ⟨rfl, tl_no (hl8 q52) hrun q32 (by omega)⟩⟩ | exact ⟨_, fm, mu, kp, Or.inr ⟨rfl, (tl_yes (hl8 q52) hrun q32 (by omega) (by omega)).1, by rw [(tl_yes (hl8 q52) hrun q32 (by omega) (by omega)).2]; exact g_read, by rw [(tl_yes (hl8 q52) hrun q32 (by omega) (by omega)).2]; omega⟩⟩
          · skip
            have hi1 : 1 ≤ i := lge_of (b := 1) q70 (by omega)
            refine x_iload_n C d_Mo_readsList_73 rfl rfl ?_
            refine x_bipush (v := 8) C d_Mo_readsList_74 (by decide) ?_
            refine x_icmp_gt (tgt := 83) C d_Mo_readsList_76 rfl (fun q76 => ?_) (fun q76 => ?_)
            · skip
              have hi2 : 8 < i := llt_of (a := 8) q76 (by omega)
              refine x_iconst (v := 0) C d_Mo_readsList_83 (by decide) ?_
              refine x_zret C d_Mo_readsList_84 (by rfl) ?_
              first | exact ⟨_, fm, mu, kp, Or.inl ⟨rfl, tl_no (hl1 q52) hrun q32 (by omega)⟩⟩ | exact ⟨_, fm, mu, kp, Or.inr ⟨rfl, (tl_yes (hl1 q52) hrun q32 (by omega) (by omega)).1, by rw [(tl_yes (hl1 q52) hrun q32 (by omega) (by omega)).2]; exact g_read, by rw [(tl_yes (hl1 q52) hrun q32 (by omega) (by omega)).2]; omega⟩⟩ | exact ⟨_, fm, mu, kp, Or.inl ⟨rfl, tl_no (hl8 q52) hrun q32 (by omega)⟩⟩ | exact ⟨_, fm, mu, kp, Or.inr ⟨rfl, (tl_yes (hl8 q52) hrun q32 (by omega) (by omega)).1, by rw [(tl_yes (hl8 q52) hrun q32 (by omega) (by omega)).2]; exact g_read, by rw [(tl_yes (hl8 q52) hrun q32 (by omega) (by omega)).2]; omega⟩⟩
            · skip
              have hi2 : i ≤ 8 := lge_of (a := 8) q76 (by omega)
              refine x_iconst (v := 1) C d_Mo_readsList_79 (by decide) ?_
              refine x_goto (tgt := 84) C d_Mo_readsList_80 rfl ?_
              refine x_zret C d_Mo_readsList_84 (by rfl) ?_
              first | exact ⟨_, fm, mu, kp, Or.inl ⟨rfl, tl_no (hl1 q52) hrun q32 (by omega)⟩⟩ | exact ⟨_, fm, mu, kp, Or.inr ⟨rfl, (tl_yes (hl1 q52) hrun q32 (by omega) (by omega)).1, by rw [(tl_yes (hl1 q52) hrun q32 (by omega) (by omega)).2]; exact g_read, by rw [(tl_yes (hl1 q52) hrun q32 (by omega) (by omega)).2]; omega⟩⟩ | exact ⟨_, fm, mu, kp, Or.inl ⟨rfl, tl_no (hl8 q52) hrun q32 (by omega)⟩⟩ | exact ⟨_, fm, mu, kp, Or.inr ⟨rfl, (tl_yes (hl8 q52) hrun q32 (by omega) (by omega)).1, by rw [(tl_yes (hl8 q52) hrun q32 (by omega) (by omega)).2]; exact g_read, by rw [(tl_yes (hl8 q52) hrun q32 (by omega) (by omega)).2]; omega⟩⟩
        · skip
          replace q52 := bI_t q52
          refine x_iload_n C d_Mo_readsList_55 rfl rfl ?_
          refine x_iconst (v := 1) C d_Mo_readsList_56 (by decide) ?_
          refine x_icmp_ne (tgt := 64) C d_Mo_readsList_57 rfl (fun q57 => ?_) (fun q57 => ?_)
          · skip
            have hi1 : ¬ i = 1 := fun z => q57 (by rw [z]; rfl)
            refine x_iconst (v := 0) C d_Mo_readsList_64 (by decide) ?_
            refine x_goto (tgt := 84) C d_Mo_readsList_65 rfl ?_
            refine x_zret C d_Mo_readsList_84 (by rfl) ?_
            first | exact ⟨_, fm, mu, kp, Or.inl ⟨rfl, tl_no (hl1 q52) hrun q32 (by omega)⟩⟩ | exact ⟨_, fm, mu, kp, Or.inr ⟨rfl, (tl_yes (hl1 q52) hrun q32 (by omega) (by omega)).1, by rw [(tl_yes (hl1 q52) hrun q32 (by omega) (by omega)).2]; exact g_read, by rw [(tl_yes (hl1 q52) hrun q32 (by omega) (by omega)).2]; omega⟩⟩ | exact ⟨_, fm, mu, kp, Or.inl ⟨rfl, tl_no (hl8 q52) hrun q32 (by omega)⟩⟩ | exact ⟨_, fm, mu, kp, Or.inr ⟨rfl, (tl_yes (hl8 q52) hrun q32 (by omega) (by omega)).1, by rw [(tl_yes (hl8 q52) hrun q32 (by omega) (by omega)).2]; exact g_read, by rw [(tl_yes (hl8 q52) hrun q32 (by omega) (by omega)).2]; omega⟩⟩
          · skip
            have hi1 : i = 1 := (nI_eq (b := 1) (by omega) (by omega)).mp q57
            refine x_iconst (v := 1) C d_Mo_readsList_60 (by decide) ?_
            refine x_goto (tgt := 84) C d_Mo_readsList_61 rfl ?_
            refine x_zret C d_Mo_readsList_84 (by rfl) ?_
            first | exact ⟨_, fm, mu, kp, Or.inl ⟨rfl, tl_no (hl1 q52) hrun q32 (by omega)⟩⟩ | exact ⟨_, fm, mu, kp, Or.inr ⟨rfl, (tl_yes (hl1 q52) hrun q32 (by omega) (by omega)).1, by rw [(tl_yes (hl1 q52) hrun q32 (by omega) (by omega)).2]; exact g_read, by rw [(tl_yes (hl1 q52) hrun q32 (by omega) (by omega)).2]; omega⟩⟩ | exact ⟨_, fm, mu, kp, Or.inl ⟨rfl, tl_no (hl8 q52) hrun q32 (by omega)⟩⟩ | exact ⟨_, fm, mu, kp, Or.inr ⟨rfl, (tl_yes (hl8 q52) hrun q32 (by omega) (by omega)).1, by rw [(tl_yes (hl8 q52) hrun q32 (by omega) (by omega)).2]; exact g_read, by rw [(tl_yes (hl8 q52) hrun q32 (by omega) (by omega)).2]; omega⟩⟩
      · skip
        replace q32 := bI_t q32
        have hpn := (tK_iff.mp q32).1
        refine x_aload_n C d_Mo_readsList_35 rfl rfl ?_
        refine x_dup C d_Mo_readsList_36 rfl ?_
        refine x_get C k_Mo f_Mo_52 d_Mo_readsList_37 fm g_read ?_
        refine x_iconst (v := 1) C d_Mo_readsList_40 (by decide) ?_
        refine x_iadd C d_Mo_readsList_41 ?_
        refine x_put C k_Mo f_Mo_52 d_Mo_readsList_42 fm (by rfl) (by rfl) (by rfl) (by omega) rfl (fun h1 u1 => ?_)
        have fki := xUp_ne u1 fki (by first | assumption | exact Ne.symm (by assumption) | exact x_ne fki fm (by simp))
        have fnu := xUp_ne u1 fnu (by first | assumption | exact Ne.symm (by assumption) | exact x_ne fnu fm (by simp))
        have fm := xUp_at u1
        have kp := kp.up u1 (by simp)
        have g_kinds := gs_ne fm g_kinds (by decide)
        have g_numbers := gs_ne fm g_numbers (by decide)
        have g_pending := gs_ne fm g_pending (by decide)
        have g_read := gs_eq fm hlen (by decide)
        have mu := mu.setF fm (by decide)
        have hlen := gs_len fm hlen
        refine x_iinc (v := nI (i + 1)) (k0 := 0) (lv' := [(2, _), (1, _), (0, _)]) C d_Mo_readsList_45 (by rfl) (nI_1 i) (by decide) (by rfl) ?_
        refine x_goto (tgt := 27) C d_Mo_readsList_48 rfl ?_
        exact ih (i + 1) p1 sb _ _ (by omega) (by omega) fm mu fki fnu kp (by rw [g_read, nI_1]; rfl) (lt_s hrun q32) hl1 hl8
  refine x_aload_n C d_Mo_readsList_0 rfl rfl ?_
  refine x_iconst (v := 4) C d_Mo_readsList_1 (by decide) ?_
  refine x_callV C l_Mo_68 v_Mo_skips d_Mo_readsList_2 (m_Mo_skips (p := p) fm hlen g_kinds g_numbers g_pending g_read fki fnu hn60 hp 4) fm rfl (by rfl) (by rfl) (by decide) (by decide) (Nat.le_of_ble_eq_true rfl) ?_
  rintro v2 h2 ⟨rfl, fs2, fm', mu2, g2_read, kp2⟩
  have fki := kp2.get fki (nm_c (by first | assumption | exact Ne.symm (by assumption) | exact x_ne fki fm (by simp)) nm_n)
  have fnu := kp2.get fnu (nm_c (by first | assumption | exact Ne.symm (by assumption) | exact x_ne fnu fm (by simp)) nm_n)
  have kp := kp.call kp2 (kc_c (Or.inl (by simp)) kc_n)
  have fm := fm'
  have hlen := mu2.1.trans hlen
  have g_kinds := mu2.get g_kinds (by decide)
  have g_numbers := mu2.get g_numbers (by decide)
  have g_pending := mu2.get g_pending (by decide)
  have g_read := g2_read
  have mu := mu.tr mu2 (by decide)
  refine x_if_ne (tgt := 16) C d_Mo_readsList_5 rfl (fun q5 => ?_) (fun q5 => ?_)
  · skip
    replace q5 := bI_t q5
    rw [if_pos q5] at g_read
    have hpn := (tW_iff.mp (by rw [← tS_eq]; exact q5 : tW ks ns n p 4 4 = true)).1
    refine x_iconst (v := 1) C d_Mo_readsList_16 (by decide) ?_
    refine x_zret C d_Mo_readsList_17 (by rfl) ?_
    have hL : tLst ks ns n p = (true, 0, p + 1, 4) ∨ tLst ks ns n p = (true, 0, p + 1, 5) := by
      first | exact Or.inl (by rw [tS_eq] at q5; unfold tLst; rw [if_pos q5]) | exact Or.inr (by rw [tS_eq] at q5 q13; unfold tLst; rw [if_neg (by rw [q5]; decide), if_pos q13])
    rcases hL with hL | hL <;> (rw [hL]; exact ⟨_, fm, mu, kp, Or.inr ⟨rfl, rfl, g_read, (show p + 1 ≤ 60 by omega)⟩⟩)
  · skip
    replace q5 := bI_f q5
    rw [if_neg (by rw [q5]; decide)] at g_read
    refine x_aload_n C d_Mo_readsList_8 rfl rfl ?_
    refine x_iconst (v := 5) C d_Mo_readsList_9 (by decide) ?_
    refine x_callV C l_Mo_68 v_Mo_skips d_Mo_readsList_10 (m_Mo_skips (p := p) fm hlen g_kinds g_numbers g_pending g_read fki fnu hn60 hp 5) fm rfl (by rfl) (by rfl) (by decide) (by decide) (Nat.le_of_ble_eq_true rfl) ?_
    rintro v3 h3 ⟨rfl, fs3, fm', mu3, g3_read, kp3⟩
    have fki := kp3.get fki (nm_c (by first | assumption | exact Ne.symm (by assumption) | exact x_ne fki fm (by simp)) nm_n)
    have fnu := kp3.get fnu (nm_c (by first | assumption | exact Ne.symm (by assumption) | exact x_ne fnu fm (by simp)) nm_n)
    have kp := kp.call kp3 (kc_c (Or.inl (by simp)) kc_n)
    have fm := fm'
    have hlen := mu3.1.trans hlen
    have g_kinds := mu3.get g_kinds (by decide)
    have g_numbers := mu3.get g_numbers (by decide)
    have g_pending := mu3.get g_pending (by decide)
    have g_read := g3_read
    have mu := mu.tr mu3 (by decide)
    refine x_if_eq (tgt := 18) C d_Mo_readsList_13 rfl (fun q13 => ?_) (fun q13 => ?_)
    · skip
      replace q13 := bI_f q13
      rw [if_neg (by rw [q13]; decide)] at g_read
      refine x_aload_n C d_Mo_readsList_18 rfl rfl ?_
      refine x_bipush (v := 6) C d_Mo_readsList_19 (by decide) ?_
      refine x_callV C l_Mo_68 v_Mo_skips d_Mo_readsList_21 (m_Mo_skips (p := p) fm hlen g_kinds g_numbers g_pending g_read fki fnu hn60 hp 6) fm rfl (by rfl) (by rfl) (by decide) (by decide) (Nat.le_of_ble_eq_true rfl) ?_
      rintro v4 h4 ⟨rfl, fs4, fm', mu4, g4_read, kp4⟩
      have fki := kp4.get fki (nm_c (by first | assumption | exact Ne.symm (by assumption) | exact x_ne fki fm (by simp)) nm_n)
      have fnu := kp4.get fnu (nm_c (by first | assumption | exact Ne.symm (by assumption) | exact x_ne fnu fm (by simp)) nm_n)
      have kp := kp.call kp4 (kc_c (Or.inl (by simp)) kc_n)
      have fm := fm'
      have hlen := mu4.1.trans hlen
      have g_kinds := mu4.get g_kinds (by decide)
      have g_numbers := mu4.get g_numbers (by decide)
      have g_pending := mu4.get g_pending (by decide)
      have g_read := g4_read
      have mu := mu.tr mu4 (by decide)
      refine x_istore_n (lv' := [(1, _), (0, _)]) C d_Mo_readsList_24 rfl (by decide) (by rfl) ?_
      refine x_iconst (v := 0) C d_Mo_readsList_25 (by decide) ?_
      refine x_istore_n (lv' := [(2, _), (1, _), (0, _)]) C d_Mo_readsList_26 rfl (by decide) (by rfl) ?_
      have hp1 : (if tS ks ns n p 6 = true then p + 1 else p) ≤ 60 := by rw [tS_eq]; exact tW_le hp hn60
      refine loop 61 0 (if tS ks ns n p 6 = true then p + 1 else p) (tS ks ns n p 6) _ _ (by omega) (by omega) fm mu fki fnu kp g_read lt_0 (fun z => ?_) (fun z => ?_)
      · rw [if_pos z]; rw [tS_eq] at z q5 q13; unfold tLst; rw [if_neg (by rw [q5]; decide), if_neg (by rw [q13]; decide), if_pos z]
      · rw [if_neg (by rw [z]; decide)]; rw [tS_eq] at z q5 q13; unfold tLst; rw [if_neg (by rw [q5]; decide), if_neg (by rw [q13]; decide), if_neg (by rw [z]; decide)]
    · skip
      replace q13 := bI_t q13
      rw [if_pos q13] at g_read
      have hpn := (tW_iff.mp (by rw [← tS_eq]; exact q13 : tW ks ns n p 5 5 = true)).1
      refine x_iconst (v := 1) C d_Mo_readsList_16 (by decide) ?_
      refine x_zret C d_Mo_readsList_17 (by rfl) ?_
      have hL : tLst ks ns n p = (true, 0, p + 1, 4) ∨ tLst ks ns n p = (true, 0, p + 1, 5) := by
        first | exact Or.inl (by rw [tS_eq] at q5; unfold tLst; rw [if_pos q5]) | exact Or.inr (by rw [tS_eq] at q5 q13; unfold tLst; rw [if_neg (by rw [q5]; decide), if_pos q13])
      rcases hL with hL | hL <;> (rw [hL]; exact ⟨_, fm, mu, kp, Or.inr ⟨rfl, rfl, g_read, (show p + 1 ≤ 60 by omega)⟩⟩)
set_option maxRecDepth 20000 in
set_option maxHeartbeats 1000000 in
theorem m_Mo_readsSelect {V : xV} {h : xH} {mki mnu n p : Nat} {ks ns : Nat → Int32} {m : Nat} {fs : List Value} (fm : h m = some (.inr (8, fs))) (hlen : fs.length = 29) (g_kinds : fs[5]? = some (.ref mki)) (g_numbers : fs[6]? = some (.ref mnu)) (g_pending : fs[7]? = some (.int (nI n))) (g_read : fs[23]? = some (.int (nI p))) (fki : h mki = some (xI V 60 ks)) (fnu : h mnu = some (xI V 60 ns)) (hn60 : n ≤ 60) (hp : p ≤ 60) {ok : Bool} {r Q : Nat} {ls : Int32} (hL : tLst ks ns n p = (ok, r, Q, ls)) : xM V y_Mo_readsSelect b_Mo_readsSelect 1 (some .boolean) 4 [.ref m] h 0 0 (fun v h' => ∃ fs', h' m = some (.inr (8, fs')) ∧ mUp [23, 26, 27, 24, 25, 28] fs fs' ∧ xKeep [m] h h' ∧ ((v = some (.int 0) ∧ tSel ks ns n (tLst ks ns n p) = none) ∨ ∃ k fr, v = some (.int 1) ∧ ok = true ∧ (tW ks ns n Q 7 7 = true ∧ tK ks n (Q + 1) 1 = true ∧ ¬ ns (Q + 1) = -1) ∧ tConds ks ns n 8 8 (tB ks n Q) = some k ∧ fs'[23]? = some (.int (nI (tEnd ks ns n (tB ks n Q + 4 * k)))) ∧ fs'[24]? = some (.int (ns (Q + 1))) ∧ fs'[25]? = some (.int (tT ks ns n (Q + 2))) ∧ fs'[28]? = some (.int (bI (tW ks ns n (tB ks n Q + 4 * k) 13 13))) ∧ fs'[26]? = some (.int (nI fr)) ∧ fs'[27]? = some (.int (nI (tB ks n Q + 4 * k))) ∧ mFT fr (tB ks n Q + 4 * k) (tB ks n Q) k ∧ tEnd ks ns n (tB ks n Q + 4 * k) ≤ 60)) := by
  refine xM_of false (by decide) (fun h => nomatch h) (Nat.le_of_ble_eq_true rfl) (fun K C => ?_)
  show K 0 0 h 0 [(0, .ref m)] []
  have kp : xKeep [m] h h := xKeep.rf
  have mu : mUp [23, 26, 27, 24, 25, 28] fs fs := mUp.rf
  refine x_aload_n C d_Mo_readsSelect_0 rfl rfl ?_
  refine x_callV C l_Mo_75 v_Mo_readsList d_Mo_readsSelect_1 (m_Mo_readsList (p := p) fm hlen g_kinds g_numbers g_pending g_read fki fnu hn60 hp) fm rfl (by rfl) (by rfl) (by decide) (by decide) (Nat.le_of_ble_eq_true rfl) ?_
  rintro v1 h1 ⟨fs1, fm', mu1, kp1, (⟨rfl, hno⟩ | ⟨rfl, hok, g1_read, hq6⟩)⟩
  · skip
    have fki := kp1.get fki (nm_c (by first | assumption | exact Ne.symm (by assumption) | exact x_ne fki fm (by simp)) nm_n)
    have fnu := kp1.get fnu (nm_c (by first | assumption | exact Ne.symm (by assumption) | exact x_ne fnu fm (by simp)) nm_n)
    have kp := kp.call kp1 (kc_c (Or.inl (by simp)) kc_n)
    have fm := fm'
    have hlen := mu1.1.trans hlen
    have g_kinds := mu1.get g_kinds (by decide)
    have g_numbers := mu1.get g_numbers (by decide)
    have g_pending := mu1.get g_pending (by decide)
    have mu := mu.tr mu1 (by decide)
    refine x_if_eq (tgt := 16) C d_Mo_readsSelect_4 rfl (fun q4 => ?_) (fun q4 => ?_)
    · skip
      refine x_iconst (v := 0) C d_Mo_readsSelect_16 (by decide) ?_
      refine x_zret C d_Mo_readsSelect_17 (by rfl) ?_
      first | exact ⟨_, fm, mu, kp, Or.inl ⟨rfl, hno⟩⟩ | exact ⟨_, fm, mu, kp, Or.inl ⟨rfl, ts_none hL (Or.inl (fun z => by have y := z.1; rw [← tS_eq, q13] at y; cases y))⟩⟩
    · skip
      exact absurd q4 (by decide)
  · skip
    have fki := kp1.get fki (nm_c (by first | assumption | exact Ne.symm (by assumption) | exact x_ne fki fm (by simp)) nm_n)
    have fnu := kp1.get fnu (nm_c (by first | assumption | exact Ne.symm (by assumption) | exact x_ne fnu fm (by simp)) nm_n)
    have kp := kp.call kp1 (kc_c (Or.inl (by simp)) kc_n)
    have fm := fm'
    have hlen := mu1.1.trans hlen
    have g_kinds := mu1.get g_kinds (by decide)
    have g_numbers := mu1.get g_numbers (by decide)
    have g_pending := mu1.get g_pending (by decide)
    have g_read := g1_read
    have mu := mu.tr mu1 (by decide)
    rw [hL] at hok g_read hq6
    dsimp only at hok g_read hq6
    refine x_if_eq (tgt := 16) C d_Mo_readsSelect_4 rfl (fun q4 => ?_) (fun q4 => ?_)
    · skip
      exact absurd q4 (by decide)
    · skip
      refine x_aload_n C d_Mo_readsSelect_7 rfl rfl ?_
      refine x_bipush (v := 7) C d_Mo_readsSelect_8 (by decide) ?_
      refine x_callV C l_Mo_68 v_Mo_skips d_Mo_readsSelect_10 (m_Mo_skips (p := Q) fm hlen g_kinds g_numbers g_pending g_read fki fnu hn60 hq6 7) fm rfl (by rfl) (by rfl) (by decide) (by decide) (Nat.le_of_ble_eq_true rfl) ?_
      rintro v2 h2 ⟨rfl, fs2, fm', mu2, g2_read, kp2⟩
      have fki := kp2.get fki (nm_c (by first | assumption | exact Ne.symm (by assumption) | exact x_ne fki fm (by simp)) nm_n)
      have fnu := kp2.get fnu (nm_c (by first | assumption | exact Ne.symm (by assumption) | exact x_ne fnu fm (by simp)) nm_n)
      have kp := kp.call kp2 (kc_c (Or.inl (by simp)) kc_n)
      have fm := fm'
      have hlen := mu2.1.trans hlen
      have g_kinds := mu2.get g_kinds (by decide)
      have g_numbers := mu2.get g_numbers (by decide)
      have g_pending := mu2.get g_pending (by decide)
      have g_read := g2_read
      have mu := mu.tr mu2 (by decide)
      refine x_if_ne (tgt := 18) C d_Mo_readsSelect_13 rfl (fun q13 => ?_) (fun q13 => ?_)
      · skip
        replace q13 := bI_t q13
        rw [if_pos q13] at g_read
        have hW7 : tW ks ns n Q 7 7 = true := by rw [← tS_eq]; exact q13
        have hQn := (tW_iff.mp hW7).1
        refine x_aload_n C d_Mo_readsSelect_18 rfl rfl ?_
        refine x_aload_n C d_Mo_readsSelect_19 rfl rfl ?_
        refine x_callV C l_Mo_78 v_Mo_readsTable d_Mo_readsSelect_20 (m_Mo_readsTable (p := Q + 1) fm hlen g_kinds g_numbers g_pending g_read fki fnu hn60 (by omega)) fm rfl (by rfl) (by rfl) (by decide) (by decide) (Nat.le_of_ble_eq_true rfl) ?_
        rintro v3 h3 ⟨rfl, fs3, fm', mu3, g3_read, kp3⟩
        have fki := kp3.get fki (nm_c (by first | assumption | exact Ne.symm (by assumption) | exact x_ne fki fm (by simp)) nm_n)
        have fnu := kp3.get fnu (nm_c (by first | assumption | exact Ne.symm (by assumption) | exact x_ne fnu fm (by simp)) nm_n)
        have kp := kp.call kp3 (kc_c (Or.inl (by simp)) kc_n)
        have fm := fm'
        have hlen := mu3.1.trans hlen
        have g_kinds := mu3.get g_kinds (by decide)
        have g_numbers := mu3.get g_numbers (by decide)
        have g_pending := mu3.get g_pending (by decide)
        have g_read := g3_read
        have mu := mu.tr mu3 (by decide)
        refine x_put C k_Mo f_Mo_82 d_Mo_readsSelect_23 fm (by rfl) (by rfl) (by rfl) (by omega) rfl (fun h4 u4 => ?_)
        have fki := xUp_ne u4 fki (by first | assumption | exact Ne.symm (by assumption) | exact x_ne fki fm (by simp))
        have fnu := xUp_ne u4 fnu (by first | assumption | exact Ne.symm (by assumption) | exact x_ne fnu fm (by simp))
        have fm := xUp_at u4
        have kp := kp.up u4 (by simp)
        have g_kinds := gs_ne fm g_kinds (by decide)
        have g_numbers := gs_ne fm g_numbers (by decide)
        have g_pending := gs_ne fm g_pending (by decide)
        have g_read := gs_ne fm g_read (by decide)
        have g_newFirst := gs_eq fm hlen (by decide)
        have mu := mu.setF fm (by decide)
        have hlen := gs_len fm hlen
        refine x_aload_n C d_Mo_readsSelect_26 rfl rfl ?_
        refine x_aload_n C d_Mo_readsSelect_27 rfl rfl ?_
        refine x_callV C l_Mo_78 v_Mo_readsTable d_Mo_readsSelect_28 (m_Mo_readsTable (p := if tK ks n (Q + 1) 1 = true then Q + 1 + 1 else Q + 1) fm hlen g_kinds g_numbers g_pending g_read fki fnu hn60 (tK_le (by omega) hn60)) fm rfl (by rfl) (by rfl) (by decide) (by decide) (Nat.le_of_ble_eq_true rfl) ?_
        rintro v5 h5 ⟨rfl, fs5, fm', mu5, g5_read, kp5⟩
        have fki := kp5.get fki (nm_c (by first | assumption | exact Ne.symm (by assumption) | exact x_ne fki fm (by simp)) nm_n)
        have fnu := kp5.get fnu (nm_c (by first | assumption | exact Ne.symm (by assumption) | exact x_ne fnu fm (by simp)) nm_n)
        have kp := kp.call kp5 (kc_c (Or.inl (by simp)) kc_n)
        have fm := fm'
        have hlen := mu5.1.trans hlen
        have g_kinds := mu5.get g_kinds (by decide)
        have g_numbers := mu5.get g_numbers (by decide)
        have g_pending := mu5.get g_pending (by decide)
        have g_newFirst := mu5.get g_newFirst (by decide)
        have g_read := g5_read
        have mu := mu.tr mu5 (by decide)
        refine x_put C k_Mo f_Mo_85 d_Mo_readsSelect_31 fm (by rfl) (by rfl) (by rfl) (by omega) rfl (fun h6 u6 => ?_)
        have fki := xUp_ne u6 fki (by first | assumption | exact Ne.symm (by assumption) | exact x_ne fki fm (by simp))
        have fnu := xUp_ne u6 fnu (by first | assumption | exact Ne.symm (by assumption) | exact x_ne fnu fm (by simp))
        have fm := xUp_at u6
        have kp := kp.up u6 (by simp)
        have g_kinds := gs_ne fm g_kinds (by decide)
        have g_numbers := gs_ne fm g_numbers (by decide)
        have g_pending := gs_ne fm g_pending (by decide)
        have g_newFirst := gs_ne fm g_newFirst (by decide)
        have g_read := gs_ne fm g_read (by decide)
        have g_newSecond := gs_eq fm hlen (by decide)
        have mu := mu.setF fm (by decide)
        have hlen := gs_len fm hlen
        refine x_aload_n C d_Mo_readsSelect_34 rfl rfl ?_
        refine x_get C k_Mo f_Mo_82 d_Mo_readsSelect_35 fm g_newFirst ?_
        refine x_iconst (v := -1) C d_Mo_readsSelect_38 (by decide) ?_
        refine x_icmp_eq (tgt := 49) C d_Mo_readsSelect_39 rfl (fun q39 => ?_) (fun q39 => ?_)
        · skip
          refine x_iconst (v := 0) C d_Mo_readsSelect_49 (by decide) ?_
          refine x_zret C d_Mo_readsSelect_50 (by rfl) ?_
          first | exact ⟨_, fm, mu, kp, Or.inl ⟨rfl, ts_none hL (Or.inr htn)⟩⟩ | exact ⟨_, fm, mu, kp, Or.inl ⟨rfl, ts_none hL (Or.inl (fun z => by unfold tT at q39; rw [if_pos z.2.1] at q39; exact z.2.2 q39))⟩⟩
        · skip
          have hFT1 := tFT_iff.mp (show tFT ks ns n (Q + 1) = true by unfold tFT; rw [decide_eq_false q39]; rfl)
          have hQ2 := (tK_iff.mp hFT1.1).1
          have hs7 : tW ks ns n Q 7 7 = true ∧ tK ks n (Q + 1) 1 = true ∧ ¬ ns (Q + 1) = -1 := ⟨hW7, hFT1⟩
          replace g_read := g_read.trans (show _ = some (Value.int (nI (tB ks n Q))) by rw [if_pos hFT1.1]; rfl)
          replace g_newSecond := g_newSecond.trans (show _ = some (Value.int (tT ks ns n (Q + 2))) by rw [if_pos hFT1.1])
          have e1 : tT ks ns n (Q + 1) = ns (Q + 1) := by unfold tT; rw [if_pos hFT1.1]
          replace g_newFirst := g_newFirst.trans (show _ = some (Value.int (ns (Q + 1))) by rw [e1])
          refine x_aload_n C d_Mo_readsSelect_42 rfl rfl ?_
          refine x_callV C l_Mo_88 v_Mo_readsConditions d_Mo_readsSelect_43 (m_Mo_readsConditions (p := tB ks n Q) fm hlen g_kinds g_numbers g_pending g_read fki fnu hn60 (tB_le (by omega) hn60) rfl) fm rfl (by rfl) (by rfl) (by decide) (by decide) (Nat.le_of_ble_eq_true rfl) ?_
          rintro v7 h7 ⟨fs7, fm', mu7, kp7, (⟨htn, rfl⟩ | ⟨k, fr, htc, rfl, g7_read, g7_newFrom, g7_newTo, hf1, hf0, hk8, hk60⟩)⟩
          · skip
            have fki := kp7.get fki (nm_c (by first | assumption | exact Ne.symm (by assumption) | exact x_ne fki fm (by simp)) nm_n)
            have fnu := kp7.get fnu (nm_c (by first | assumption | exact Ne.symm (by assumption) | exact x_ne fnu fm (by simp)) nm_n)
            have kp := kp.call kp7 (kc_c (Or.inl (by simp)) kc_n)
            have fm := fm'
            have hlen := mu7.1.trans hlen
            have g_kinds := mu7.get g_kinds (by decide)
            have g_numbers := mu7.get g_numbers (by decide)
            have g_pending := mu7.get g_pending (by decide)
            have g_newFirst := mu7.get g_newFirst (by decide)
            have g_newSecond := mu7.get g_newSecond (by decide)
            have mu := mu.tr mu7 (by decide)
            refine x_if_ne (tgt := 51) C d_Mo_readsSelect_46 rfl (fun q46 => ?_) (fun q46 => ?_)
            · skip
              exact absurd q46 (by decide)
            · skip
              refine x_iconst (v := 0) C d_Mo_readsSelect_49 (by decide) ?_
              refine x_zret C d_Mo_readsSelect_50 (by rfl) ?_
              first | exact ⟨_, fm, mu, kp, Or.inl ⟨rfl, ts_none hL (Or.inr htn)⟩⟩ | exact ⟨_, fm, mu, kp, Or.inl ⟨rfl, ts_none hL (Or.inl (fun z => by unfold tT at q39; rw [if_pos z.2.1] at q39; exact z.2.2 q39))⟩⟩
          · skip
            have fki := kp7.get fki (nm_c (by first | assumption | exact Ne.symm (by assumption) | exact x_ne fki fm (by simp)) nm_n)
            have fnu := kp7.get fnu (nm_c (by first | assumption | exact Ne.symm (by assumption) | exact x_ne fnu fm (by simp)) nm_n)
            have kp := kp.call kp7 (kc_c (Or.inl (by simp)) kc_n)
            have fm := fm'
            have hlen := mu7.1.trans hlen
            have g_kinds := mu7.get g_kinds (by decide)
            have g_numbers := mu7.get g_numbers (by decide)
            have g_pending := mu7.get g_pending (by decide)
            have g_newFirst := mu7.get g_newFirst (by decide)
            have g_newSecond := mu7.get g_newSecond (by decide)
            have g_read := g7_read
            have g_newFrom := g7_newFrom
            have g_newTo := g7_newTo
            have mu := mu.tr mu7 (by decide)
            have hMF := mFT.of hf1 hf0 hk60
            refine x_if_ne (tgt := 51) C d_Mo_readsSelect_46 rfl (fun q46 => ?_) (fun q46 => ?_)
            · skip
              refine x_aload_n C d_Mo_readsSelect_51 rfl rfl ?_
              refine x_aload_n C d_Mo_readsSelect_52 rfl rfl ?_
              refine x_bipush (v := 13) C d_Mo_readsSelect_53 (by decide) ?_
              refine x_callV C l_Mo_68 v_Mo_skips d_Mo_readsSelect_55 (m_Mo_skips (p := tB ks n Q + 4 * k) fm hlen g_kinds g_numbers g_pending g_read fki fnu hn60 hk60 13) fm rfl (by rfl) (by rfl) (by decide) (by decide) (Nat.le_of_ble_eq_true rfl) ?_
              rintro v8 h8 ⟨rfl, fs8, fm', mu8, g8_read, kp8⟩
              have fki := kp8.get fki (nm_c (by first | assumption | exact Ne.symm (by assumption) | exact x_ne fki fm (by simp)) nm_n)
              have fnu := kp8.get fnu (nm_c (by first | assumption | exact Ne.symm (by assumption) | exact x_ne fnu fm (by simp)) nm_n)
              have kp := kp.call kp8 (kc_c (Or.inl (by simp)) kc_n)
              have fm := fm'
              have hlen := mu8.1.trans hlen
              have g_kinds := mu8.get g_kinds (by decide)
              have g_numbers := mu8.get g_numbers (by decide)
              have g_pending := mu8.get g_pending (by decide)
              have g_newFirst := mu8.get g_newFirst (by decide)
              have g_newSecond := mu8.get g_newSecond (by decide)
              have g_newFrom := mu8.get g_newFrom (by decide)
              have g_newTo := mu8.get g_newTo (by decide)
              have g_read := g8_read
              have mu := mu.tr mu8 (by decide)
              refine x_put C k_Mo f_Mo_91 d_Mo_readsSelect_58 fm (by rfl) (by cases tS ks ns n (tB ks n Q + 4 * k) 13 <;> rfl) (by cases tS ks ns n (tB ks n Q + 4 * k) 13 <;> rfl) (by omega) rfl (fun h9 u9 => ?_)
              have fki := xUp_ne u9 fki (by first | assumption | exact Ne.symm (by assumption) | exact x_ne fki fm (by simp))
              have fnu := xUp_ne u9 fnu (by first | assumption | exact Ne.symm (by assumption) | exact x_ne fnu fm (by simp))
              have fm := xUp_at u9
              have kp := kp.up u9 (by simp)
              have g_kinds := gs_ne fm g_kinds (by decide)
              have g_numbers := gs_ne fm g_numbers (by decide)
              have g_pending := gs_ne fm g_pending (by decide)
              have g_newFirst := gs_ne fm g_newFirst (by decide)
              have g_newSecond := gs_ne fm g_newSecond (by decide)
              have g_newFrom := gs_ne fm g_newFrom (by decide)
              have g_newTo := gs_ne fm g_newTo (by decide)
              have g_read := gs_ne fm g_read (by decide)
              have g_newFalls := gs_eq fm hlen (by decide)
              have mu := mu.setF fm (by decide)
              have hlen := gs_len fm hlen
              refine x_iconst (v := 1) C d_Mo_readsSelect_61 (by decide) ?_
              refine x_zret C d_Mo_readsSelect_62 (by rfl) ?_
              replace g_read := g_read.trans (show _ = some (Value.int (nI (tEnd ks ns n (tB ks n Q + 4 * k)))) by rw [tS_eq]; rfl)
              replace g_newFalls := g_newFalls.trans (show _ = some (Value.int (bI (tW ks ns n (tB ks n Q + 4 * k) 13 13))) by rw [tS_eq])
              exact ⟨_, fm, mu, kp, Or.inr ⟨k, fr, rfl, hok, hs7, htc, g_read, g_newFirst, g_newSecond, g_newFalls, g_newFrom, g_newTo, hMF, tW_le hk60 hn60⟩⟩
            · skip
              exact absurd q46 (by decide)
      · skip
        replace q13 := bI_f q13
        refine x_iconst (v := 0) C d_Mo_readsSelect_16 (by decide) ?_
        refine x_zret C d_Mo_readsSelect_17 (by rfl) ?_
        first | exact ⟨_, fm, mu, kp, Or.inl ⟨rfl, hno⟩⟩ | exact ⟨_, fm, mu, kp, Or.inl ⟨rfl, ts_none hL (Or.inl (fun z => by have y := z.1; rw [← tS_eq, q13] at y; cases y))⟩⟩
set_option maxRecDepth 20000 in
set_option maxHeartbeats 1000000 in
theorem m_Mo_reads {V : xV} {h : xH} {mki mnu n : Nat} {ks ns : Nat → Int32} {m : Nat} {fs : List Value} (fm : h m = some (.inr (8, fs))) (hlen : fs.length = 29) (g_kinds : fs[5]? = some (.ref mki)) (g_numbers : fs[6]? = some (.ref mnu)) (g_pending : fs[7]? = some (.int (nI n))) (fki : h mki = some (xI V 60 ks)) (fnu : h mnu = some (xI V 60 ns)) (hn60 : n ≤ 60) : xM V y_Mo_reads b_Mo_reads 2 (some .boolean) 5 [.ref m] h 0 0 (fun v h' => ∃ fs', h' m = some (.inr (8, fs')) ∧ mUp [23, 26, 27, 24, 25, 28] fs fs' ∧ xKeep [m] h h' ∧ ((tParse ks ns n = none ∧ v = some (.int 0)) ∨ ∃ dd fr T, tParse ks ns n = some dd ∧ v = some (.int 1) ∧ fs'[24]? = some (.int dd.1.2.2.1) ∧ fs'[25]? = some (.int dd.1.2.2.2.1) ∧ fs'[28]? = some (.int (bI dd.1.2.2.2.2)) ∧ fs'[26]? = some (.int (nI fr)) ∧ fs'[27]? = some (.int (nI T)) ∧ mFT fr T dd.2.2.2.2.2 dd.2.2.2.2.1)) := by
  refine xM_of false (by decide) (fun h => nomatch h) (Nat.le_of_ble_eq_true rfl) (fun K C => ?_)
  show K 0 0 h 0 [(0, .ref m)] []
  have kp : xKeep [m] h h := xKeep.rf
  have mu : mUp [23, 26, 27, 24, 25, 28] fs fs := mUp.rf
  have loop : ∀ mq : Nat, ∀ (i : Nat) (h1 : xH) (fs1 : List Value), 60 - i < mq → 2 + i ≤ 60 → h1 m = some (.inr (8, fs1)) → mUp [23, 26, 27, 24, 25, 28] fs fs1 → h1 mki = some (xI V 60 ks) → h1 mnu = some (xI V 60 ns) → xKeep [m] h h1 → fs1[23]? = some (.int (nI (2 + i))) → fs1[24]? = some (.int (ns 1)) → fs1[25]? = some (.int (-1)) → fs1[28]? = some (.int 0) → fs1[26]? = some (.int 0) → fs1[27]? = some (.int 0) → (∀ j, j < i → tK ks n (2 + j) 3 = true) → ¬ n = 0 → ks 0 = 0 → ¬ ns 0 = 3 → ¬ ns 0 = 2 → tFT ks ns n 1 = true → K 0 0 h1 131 [(1, .int (nI i)), (0, .ref m)] [] := by
    intro mq
    induction mq with
    | zero => intro i h1 fs1 hm hi fm mu fki fnu kp g_read g_newFirst g_newSecond g_newFalls g_newFrom g_newTo hrun hn0 q38 q50 q102 hFT; omega
    | succ mq ih =>
      intro i h1 fs1 hm hi fm mu fki fnu kp g_read g_newFirst g_newSecond g_newFalls g_newFrom g_newTo hrun hn0 q38 q50 q102 hFT
      have hlen := mu.1.trans hlen
      have g_kinds := mu.get g_kinds (by decide)
      have g_numbers := mu.get g_numbers (by decide)
      have g_pending := mu.get g_pending (by decide)
      refine x_aload_n C d_Mo_reads_131 rfl rfl ?_
      refine x_iconst (v := 3) C d_Mo_reads_132 (by decide) ?_
      refine x_callV C l_Mo_55 v_Mo_isKind d_Mo_reads_133 (m_Mo_isKind (p := 2 + i) fm hlen g_kinds g_numbers g_pending g_read fki fnu hn60 hi 3) fm rfl (by rfl) (by rfl) (by decide) (by decide) (Nat.le_of_ble_eq_true rfl) ?_
      rintro v9 h9 ⟨rfl, rfl⟩
      refine x_if_eq (tgt := 155) C d_Mo_reads_136 rfl (fun q136 => ?_) (fun q136 => ?_)
      · skip
        replace q136 := bI_f q136
        refine x_aload_n C d_Mo_reads_155 rfl rfl ?_
        refine x_get C k_Mo f_Mo_52 d_Mo_reads_156 fm g_read ?_
        refine x_aload_n C d_Mo_reads_159 rfl rfl ?_
        refine x_get C k_Mo f_Mo_49 d_Mo_reads_160 fm g_pending ?_
        refine x_icmp_ne (tgt := 201) C d_Mo_reads_163 rfl (fun q163 => ?_) (fun q163 => ?_)
        · skip
          have hne : ¬ 2 + i = n := fun z => q163 (by rw [z])
          refine x_iconst (v := 0) C d_Mo_reads_201 (by decide) ?_
          refine x_zret C d_Mo_reads_202 (by rfl) ?_
          first | exact ⟨_, fm, mu, kp, Or.inl ⟨tp_num q50 q102 hi hrun q136 (Or.inl hne), rfl⟩⟩ | exact ⟨_, fm, mu, kp, Or.inl ⟨tp_num q50 q102 hi hrun q136 (Or.inr (Or.inl ⟨q172, hi1⟩)), rfl⟩⟩ | exact ⟨_, fm, mu, kp, Or.inl ⟨tp_num q50 q102 hi hrun q136 (Or.inr (Or.inr (Or.inl ⟨q172, q190⟩))), rfl⟩⟩ | exact ⟨_, fm, mu, kp, Or.inl ⟨tp_num q50 q102 hi hrun q136 (Or.inr (Or.inr (Or.inr ⟨q190, hi1⟩))), rfl⟩⟩ | exact ⟨_, fm, mu, kp, Or.inr ⟨_, 0, 0, tp_in q38 q190 hFT hi hrun q136 hi1 hne, rfl, g_newFirst, g_newSecond, g_newFalls, g_newFrom, g_newTo, mFT.none⟩⟩ | exact ⟨_, fm, mu, kp, Or.inr ⟨_, 0, 0, tp_cr q38 q172 hFT (hrun 0 (by omega)) (by omega), rfl, g_newFirst, g_newSecond, g_newFalls, g_newFrom, g_newTo, mFT.none⟩⟩
        · skip
          have hne : 2 + i = n := (nI_eq (by omega) (by omega)).mp q163
          refine x_aload_n C d_Mo_reads_166 rfl rfl ?_
          refine x_get C k_Mo f_Mo_22 d_Mo_reads_167 fm g_numbers ?_
          refine x_iconst (v := 0) C d_Mo_reads_170 (by decide) ?_
          refine x_iald C d_Mo_reads_171 fnu (vp_in_nI (n := 0) (by decide) (by decide)) ?_
          rw [show (0 : Int32).toNatClampNeg = 0 by decide]
          refine x_if_ne (tgt := 183) C d_Mo_reads_172 rfl (fun q172 => ?_) (fun q172 => ?_)
          · skip
            refine x_aload_n C d_Mo_reads_183 rfl rfl ?_
            refine x_get C k_Mo f_Mo_22 d_Mo_reads_184 fm g_numbers ?_
            refine x_iconst (v := 0) C d_Mo_reads_187 (by decide) ?_
            refine x_iald C d_Mo_reads_188 fnu (vp_in_nI (n := 0) (by decide) (by decide)) ?_
            rw [show (0 : Int32).toNatClampNeg = 0 by decide]
            refine x_iconst (v := 1) C d_Mo_reads_189 (by decide) ?_
            refine x_icmp_ne (tgt := 201) C d_Mo_reads_190 rfl (fun q190 => ?_) (fun q190 => ?_)
            · skip
              refine x_iconst (v := 0) C d_Mo_reads_201 (by decide) ?_
              refine x_zret C d_Mo_reads_202 (by rfl) ?_
              first | exact ⟨_, fm, mu, kp, Or.inl ⟨tp_num q50 q102 hi hrun q136 (Or.inl hne), rfl⟩⟩ | exact ⟨_, fm, mu, kp, Or.inl ⟨tp_num q50 q102 hi hrun q136 (Or.inr (Or.inl ⟨q172, hi1⟩)), rfl⟩⟩ | exact ⟨_, fm, mu, kp, Or.inl ⟨tp_num q50 q102 hi hrun q136 (Or.inr (Or.inr (Or.inl ⟨q172, q190⟩))), rfl⟩⟩ | exact ⟨_, fm, mu, kp, Or.inl ⟨tp_num q50 q102 hi hrun q136 (Or.inr (Or.inr (Or.inr ⟨q190, hi1⟩))), rfl⟩⟩ | exact ⟨_, fm, mu, kp, Or.inr ⟨_, 0, 0, tp_in q38 q190 hFT hi hrun q136 hi1 hne, rfl, g_newFirst, g_newSecond, g_newFalls, g_newFrom, g_newTo, mFT.none⟩⟩ | exact ⟨_, fm, mu, kp, Or.inr ⟨_, 0, 0, tp_cr q38 q172 hFT (hrun 0 (by omega)) (by omega), rfl, g_newFirst, g_newSecond, g_newFalls, g_newFrom, g_newTo, mFT.none⟩⟩
            · skip
              refine x_iload_n C d_Mo_reads_193 rfl rfl ?_
              refine x_if_le (tgt := 201) C d_Mo_reads_194 rfl (fun q194 => ?_) (fun q194 => ?_)
              · skip
                have hi1 : i = 0 := by rcases Nat.eq_zero_or_pos i with z | z; exact z; exact absurd q194 (nI_nle z (by omega))
                refine x_iconst (v := 0) C d_Mo_reads_201 (by decide) ?_
                refine x_zret C d_Mo_reads_202 (by rfl) ?_
                first | exact ⟨_, fm, mu, kp, Or.inl ⟨tp_num q50 q102 hi hrun q136 (Or.inl hne), rfl⟩⟩ | exact ⟨_, fm, mu, kp, Or.inl ⟨tp_num q50 q102 hi hrun q136 (Or.inr (Or.inl ⟨q172, hi1⟩)), rfl⟩⟩ | exact ⟨_, fm, mu, kp, Or.inl ⟨tp_num q50 q102 hi hrun q136 (Or.inr (Or.inr (Or.inl ⟨q172, q190⟩))), rfl⟩⟩ | exact ⟨_, fm, mu, kp, Or.inl ⟨tp_num q50 q102 hi hrun q136 (Or.inr (Or.inr (Or.inr ⟨q190, hi1⟩))), rfl⟩⟩ | exact ⟨_, fm, mu, kp, Or.inr ⟨_, 0, 0, tp_in q38 q190 hFT hi hrun q136 hi1 hne, rfl, g_newFirst, g_newSecond, g_newFalls, g_newFrom, g_newTo, mFT.none⟩⟩ | exact ⟨_, fm, mu, kp, Or.inr ⟨_, 0, 0, tp_cr q38 q172 hFT (hrun 0 (by omega)) (by omega), rfl, g_newFirst, g_newSecond, g_newFalls, g_newFrom, g_newTo, mFT.none⟩⟩
              · skip
                have hi1 : 0 < i := by rcases Nat.eq_zero_or_pos i with z | z; exact absurd (show nI i ≤ 0 by rw [z]; decide) q194; exact z
                refine x_iconst (v := 1) C d_Mo_reads_197 (by decide) ?_
                refine x_goto (tgt := 202) C d_Mo_reads_198 rfl ?_
                refine x_zret C d_Mo_reads_202 (by rfl) ?_
                first | exact ⟨_, fm, mu, kp, Or.inl ⟨tp_num q50 q102 hi hrun q136 (Or.inl hne), rfl⟩⟩ | exact ⟨_, fm, mu, kp, Or.inl ⟨tp_num q50 q102 hi hrun q136 (Or.inr (Or.inl ⟨q172, hi1⟩)), rfl⟩⟩ | exact ⟨_, fm, mu, kp, Or.inl ⟨tp_num q50 q102 hi hrun q136 (Or.inr (Or.inr (Or.inl ⟨q172, q190⟩))), rfl⟩⟩ | exact ⟨_, fm, mu, kp, Or.inl ⟨tp_num q50 q102 hi hrun q136 (Or.inr (Or.inr (Or.inr ⟨q190, hi1⟩))), rfl⟩⟩ | exact ⟨_, fm, mu, kp, Or.inr ⟨_, 0, 0, tp_in q38 q190 hFT hi hrun q136 hi1 hne, rfl, g_newFirst, g_newSecond, g_newFalls, g_newFrom, g_newTo, mFT.none⟩⟩ | exact ⟨_, fm, mu, kp, Or.inr ⟨_, 0, 0, tp_cr q38 q172 hFT (hrun 0 (by omega)) (by omega), rfl, g_newFirst, g_newSecond, g_newFalls, g_newFrom, g_newTo, mFT.none⟩⟩
          · skip
            refine x_iload_n C d_Mo_reads_175 rfl rfl ?_
            refine x_iconst (v := 1) C d_Mo_reads_176 (by decide) ?_
            refine x_icmp_ne (tgt := 201) C d_Mo_reads_177 rfl (fun q177 => ?_) (fun q177 => ?_)
            · skip
              have hi1 : ¬ i = 1 := fun z => q177 (by rw [z]; rfl)
              refine x_iconst (v := 0) C d_Mo_reads_201 (by decide) ?_
              refine x_zret C d_Mo_reads_202 (by rfl) ?_
              first | exact ⟨_, fm, mu, kp, Or.inl ⟨tp_num q50 q102 hi hrun q136 (Or.inl hne), rfl⟩⟩ | exact ⟨_, fm, mu, kp, Or.inl ⟨tp_num q50 q102 hi hrun q136 (Or.inr (Or.inl ⟨q172, hi1⟩)), rfl⟩⟩ | exact ⟨_, fm, mu, kp, Or.inl ⟨tp_num q50 q102 hi hrun q136 (Or.inr (Or.inr (Or.inl ⟨q172, q190⟩))), rfl⟩⟩ | exact ⟨_, fm, mu, kp, Or.inl ⟨tp_num q50 q102 hi hrun q136 (Or.inr (Or.inr (Or.inr ⟨q190, hi1⟩))), rfl⟩⟩ | exact ⟨_, fm, mu, kp, Or.inr ⟨_, 0, 0, tp_in q38 q190 hFT hi hrun q136 hi1 hne, rfl, g_newFirst, g_newSecond, g_newFalls, g_newFrom, g_newTo, mFT.none⟩⟩ | exact ⟨_, fm, mu, kp, Or.inr ⟨_, 0, 0, tp_cr q38 q172 hFT (hrun 0 (by omega)) (by omega), rfl, g_newFirst, g_newSecond, g_newFalls, g_newFrom, g_newTo, mFT.none⟩⟩
            · skip
              have hi1 : i = 1 := (nI_eq (b := 1) (by omega) (by omega)).mp q177
              refine x_goto (tgt := 197) C d_Mo_reads_180 rfl ?_
              refine x_iconst (v := 1) C d_Mo_reads_197 (by decide) ?_
              refine x_goto (tgt := 202) C d_Mo_reads_198 rfl ?_
              refine x_zret C d_Mo_reads_202 (by rfl) ?_
              first | exact ⟨_, fm, mu, kp, Or.inl ⟨tp_num q50 q102 hi hrun q136 (Or.inl hne), rfl⟩⟩ | exact ⟨_, fm, mu, kp, Or.inl ⟨tp_num q50 q102 hi hrun q136 (Or.inr (Or.inl ⟨q172, hi1⟩)), rfl⟩⟩ | exact ⟨_, fm, mu, kp, Or.inl ⟨tp_num q50 q102 hi hrun q136 (Or.inr (Or.inr (Or.inl ⟨q172, q190⟩))), rfl⟩⟩ | exact ⟨_, fm, mu, kp, Or.inl ⟨tp_num q50 q102 hi hrun q136 (Or.inr (Or.inr (Or.inr ⟨q190, hi1⟩))), rfl⟩⟩ | exact ⟨_, fm, mu, kp, Or.inr ⟨_, 0, 0, tp_in q38 q190 hFT hi hrun q136 hi1 hne, rfl, g_newFirst, g_newSecond, g_newFalls, g_newFrom, g_newTo, mFT.none⟩⟩ | exact ⟨_, fm, mu, kp, Or.inr ⟨_, 0, 0, tp_cr q38 q172 hFT (hrun 0 (by omega)) (by omega), rfl, g_newFirst, g_newSecond, g_newFalls, g_newFrom, g_newTo, mFT.none⟩⟩
      · skip
        replace q136 := bI_t q136
        have hpn := (tK_iff.mp q136).1
        refine x_aload_n C d_Mo_reads_139 rfl rfl ?_
        refine x_dup C d_Mo_reads_140 rfl ?_
        refine x_get C k_Mo f_Mo_52 d_Mo_reads_141 fm g_read ?_
        refine x_iconst (v := 1) C d_Mo_reads_144 (by decide) ?_
        refine x_iadd C d_Mo_reads_145 ?_
        refine x_put C k_Mo f_Mo_52 d_Mo_reads_146 fm (by rfl) (by rfl) (by rfl) (by omega) rfl (fun h1 u1 => ?_)
        have fki := xUp_ne u1 fki (by first | assumption | exact Ne.symm (by assumption) | exact x_ne fki fm (by simp))
        have fnu := xUp_ne u1 fnu (by first | assumption | exact Ne.symm (by assumption) | exact x_ne fnu fm (by simp))
        have fm := xUp_at u1
        have kp := kp.up u1 (by simp)
        have g_kinds := gs_ne fm g_kinds (by decide)
        have g_numbers := gs_ne fm g_numbers (by decide)
        have g_pending := gs_ne fm g_pending (by decide)
        have g_newFirst := gs_ne fm g_newFirst (by decide)
        have g_newSecond := gs_ne fm g_newSecond (by decide)
        have g_newFalls := gs_ne fm g_newFalls (by decide)
        have g_newFrom := gs_ne fm g_newFrom (by decide)
        have g_newTo := gs_ne fm g_newTo (by decide)
        have g_read := gs_eq fm hlen (by decide)
        have mu := mu.setF fm (by decide)
        have hlen := gs_len fm hlen
        refine x_iinc (v := nI (i + 1)) (k0 := 0) (lv' := [(1, _), (0, _)]) C d_Mo_reads_149 (by rfl) (nI_1 i) (by decide) (by rfl) ?_
        refine x_goto (tgt := 131) C d_Mo_reads_152 rfl ?_
        exact ih (i + 1) _ _ (by omega) (by omega) fm mu fki fnu kp (by rw [g_read, nI_1]; rfl) g_newFirst g_newSecond g_newFalls g_newFrom g_newTo (lt_s hrun q136) hn0 q38 q50 q102 hFT
  refine x_aload_n C d_Mo_reads_0 rfl rfl ?_
  refine x_iconst (v := 1) C d_Mo_reads_1 (by decide) ?_
  refine x_put C k_Mo f_Mo_52 d_Mo_reads_2 fm (by rfl) (by rfl) (by rfl) (by omega) rfl (fun h2 u2 => ?_)
  have fki := xUp_ne u2 fki (by first | assumption | exact Ne.symm (by assumption) | exact x_ne fki fm (by simp))
  have fnu := xUp_ne u2 fnu (by first | assumption | exact Ne.symm (by assumption) | exact x_ne fnu fm (by simp))
  have fm := xUp_at u2
  have kp := kp.up u2 (by simp)
  have g_kinds := gs_ne fm g_kinds (by decide)
  have g_numbers := gs_ne fm g_numbers (by decide)
  have g_pending := gs_ne fm g_pending (by decide)
  have g_read := gs_eq fm hlen (by decide)
  have mu := mu.setF fm (by decide)
  have hlen := gs_len fm hlen
  refine x_aload_n C d_Mo_reads_5 rfl rfl ?_
  refine x_iconst (v := -1) C d_Mo_reads_6 (by decide) ?_
  refine x_put C k_Mo f_Mo_85 d_Mo_reads_7 fm (by rfl) (by rfl) (by rfl) (by omega) rfl (fun h3 u3 => ?_)
  have fki := xUp_ne u3 fki (by first | assumption | exact Ne.symm (by assumption) | exact x_ne fki fm (by simp))
  have fnu := xUp_ne u3 fnu (by first | assumption | exact Ne.symm (by assumption) | exact x_ne fnu fm (by simp))
  have fm := xUp_at u3
  have kp := kp.up u3 (by simp)
  have g_kinds := gs_ne fm g_kinds (by decide)
  have g_numbers := gs_ne fm g_numbers (by decide)
  have g_pending := gs_ne fm g_pending (by decide)
  have g_read := gs_ne fm g_read (by decide)
  have g_newSecond := gs_eq fm hlen (by decide)
  have mu := mu.setF fm (by decide)
  have hlen := gs_len fm hlen
  refine x_aload_n C d_Mo_reads_10 rfl rfl ?_
  refine x_iconst (v := 0) C d_Mo_reads_11 (by decide) ?_
  refine x_put C k_Mo f_Mo_91 d_Mo_reads_12 fm (by rfl) (by rfl) (by rfl) (by omega) rfl (fun h4 u4 => ?_)
  have fki := xUp_ne u4 fki (by first | assumption | exact Ne.symm (by assumption) | exact x_ne fki fm (by simp))
  have fnu := xUp_ne u4 fnu (by first | assumption | exact Ne.symm (by assumption) | exact x_ne fnu fm (by simp))
  have fm := xUp_at u4
  have kp := kp.up u4 (by simp)
  have g_kinds := gs_ne fm g_kinds (by decide)
  have g_numbers := gs_ne fm g_numbers (by decide)
  have g_pending := gs_ne fm g_pending (by decide)
  have g_read := gs_ne fm g_read (by decide)
  have g_newSecond := gs_ne fm g_newSecond (by decide)
  have g_newFalls := gs_eq fm hlen (by decide)
  have mu := mu.setF fm (by decide)
  have hlen := gs_len fm hlen
  refine x_aload_n C d_Mo_reads_15 rfl rfl ?_
  refine x_iconst (v := 0) C d_Mo_reads_16 (by decide) ?_
  refine x_put C k_Mo f_Mo_62 d_Mo_reads_17 fm (by rfl) (by rfl) (by rfl) (by omega) rfl (fun h5 u5 => ?_)
  have fki := xUp_ne u5 fki (by first | assumption | exact Ne.symm (by assumption) | exact x_ne fki fm (by simp))
  have fnu := xUp_ne u5 fnu (by first | assumption | exact Ne.symm (by assumption) | exact x_ne fnu fm (by simp))
  have fm := xUp_at u5
  have kp := kp.up u5 (by simp)
  have g_kinds := gs_ne fm g_kinds (by decide)
  have g_numbers := gs_ne fm g_numbers (by decide)
  have g_pending := gs_ne fm g_pending (by decide)
  have g_read := gs_ne fm g_read (by decide)
  have g_newSecond := gs_ne fm g_newSecond (by decide)
  have g_newFalls := gs_ne fm g_newFalls (by decide)
  have g_newFrom := gs_eq fm hlen (by decide)
  have mu := mu.setF fm (by decide)
  have hlen := gs_len fm hlen
  refine x_aload_n C d_Mo_reads_20 rfl rfl ?_
  refine x_iconst (v := 0) C d_Mo_reads_21 (by decide) ?_
  refine x_put C k_Mo f_Mo_65 d_Mo_reads_22 fm (by rfl) (by rfl) (by rfl) (by omega) rfl (fun h6 u6 => ?_)
  have fki := xUp_ne u6 fki (by first | assumption | exact Ne.symm (by assumption) | exact x_ne fki fm (by simp))
  have fnu := xUp_ne u6 fnu (by first | assumption | exact Ne.symm (by assumption) | exact x_ne fnu fm (by simp))
  have fm := xUp_at u6
  have kp := kp.up u6 (by simp)
  have g_kinds := gs_ne fm g_kinds (by decide)
  have g_numbers := gs_ne fm g_numbers (by decide)
  have g_pending := gs_ne fm g_pending (by decide)
  have g_read := gs_ne fm g_read (by decide)
  have g_newSecond := gs_ne fm g_newSecond (by decide)
  have g_newFalls := gs_ne fm g_newFalls (by decide)
  have g_newFrom := gs_ne fm g_newFrom (by decide)
  have g_newTo := gs_eq fm hlen (by decide)
  have mu := mu.setF fm (by decide)
  have hlen := gs_len fm hlen
  refine x_aload_n C d_Mo_reads_25 rfl rfl ?_
  refine x_get C k_Mo f_Mo_49 d_Mo_reads_26 fm g_pending ?_
  refine x_if_eq (tgt := 41) C d_Mo_reads_29 rfl (fun q29 => ?_) (fun q29 => ?_)
  · skip
    have hn0 : n = 0 := (nI_eq (b := 0) (by omega) (by omega)).mp q29
    refine x_iconst (v := 0) C d_Mo_reads_41 (by decide) ?_
    refine x_zret C d_Mo_reads_42 (by rfl) ?_
    first | exact ⟨_, fm, mu, kp, Or.inl ⟨tp_none0 (Or.inl hn0), rfl⟩⟩ | exact ⟨_, fm, mu, kp, Or.inl ⟨tp_none0 (Or.inr q38), rfl⟩⟩
  · skip
    have hn0 : ¬ n = 0 := fun z => q29 (by rw [z]; rfl)
    refine x_aload_n C d_Mo_reads_32 rfl rfl ?_
    refine x_get C k_Mo f_Mo_19 d_Mo_reads_33 fm g_kinds ?_
    refine x_iconst (v := 0) C d_Mo_reads_36 (by decide) ?_
    refine x_iald C d_Mo_reads_37 fki (vp_in_nI (n := 0) (by decide) (by decide)) ?_
    rw [show (0 : Int32).toNatClampNeg = 0 by decide]
    refine x_if_eq (tgt := 43) C d_Mo_reads_38 rfl (fun q38 => ?_) (fun q38 => ?_)
    · skip
      refine x_aload_n C d_Mo_reads_43 rfl rfl ?_
      refine x_get C k_Mo f_Mo_22 d_Mo_reads_44 fm g_numbers ?_
      refine x_iconst (v := 0) C d_Mo_reads_47 (by decide) ?_
      refine x_iald C d_Mo_reads_48 fnu (vp_in_nI (n := 0) (by decide) (by decide)) ?_
      rw [show (0 : Int32).toNatClampNeg = 0 by decide]
      refine x_iconst (v := 3) C d_Mo_reads_49 (by decide) ?_
      refine x_icmp_ne (tgt := 77) C d_Mo_reads_50 rfl (fun q50 => ?_) (fun q50 => ?_)
      · skip
        refine x_aload_n C d_Mo_reads_77 rfl rfl ?_
        refine x_aload_n C d_Mo_reads_78 rfl rfl ?_
        refine x_callV C l_Mo_78 v_Mo_readsTable d_Mo_reads_79 (m_Mo_readsTable (p := 1) fm hlen g_kinds g_numbers g_pending g_read fki fnu hn60 (by omega)) fm rfl (by rfl) (by rfl) (by decide) (by decide) (Nat.le_of_ble_eq_true rfl) ?_
        rintro v7 h7 ⟨rfl, fs7, fm', mu7, g7_read, kp7⟩
        have fki := kp7.get fki (nm_c (by first | assumption | exact Ne.symm (by assumption) | exact x_ne fki fm (by simp)) nm_n)
        have fnu := kp7.get fnu (nm_c (by first | assumption | exact Ne.symm (by assumption) | exact x_ne fnu fm (by simp)) nm_n)
        have kp := kp.call kp7 (kc_c (Or.inl (by simp)) kc_n)
        have fm := fm'
        have hlen := mu7.1.trans hlen
        have g_kinds := mu7.get g_kinds (by decide)
        have g_numbers := mu7.get g_numbers (by decide)
        have g_pending := mu7.get g_pending (by decide)
        have g_newSecond := mu7.get g_newSecond (by decide)
        have g_newFalls := mu7.get g_newFalls (by decide)
        have g_newFrom := mu7.get g_newFrom (by decide)
        have g_newTo := mu7.get g_newTo (by decide)
        have g_read := g7_read
        have mu := mu.tr mu7 (by decide)
        refine x_put C k_Mo f_Mo_82 d_Mo_reads_82 fm (by rfl) (by rfl) (by rfl) (by omega) rfl (fun h8 u8 => ?_)
        have fki := xUp_ne u8 fki (by first | assumption | exact Ne.symm (by assumption) | exact x_ne fki fm (by simp))
        have fnu := xUp_ne u8 fnu (by first | assumption | exact Ne.symm (by assumption) | exact x_ne fnu fm (by simp))
        have fm := xUp_at u8
        have kp := kp.up u8 (by simp)
        have g_kinds := gs_ne fm g_kinds (by decide)
        have g_numbers := gs_ne fm g_numbers (by decide)
        have g_pending := gs_ne fm g_pending (by decide)
        have g_newSecond := gs_ne fm g_newSecond (by decide)
        have g_newFalls := gs_ne fm g_newFalls (by decide)
        have g_newFrom := gs_ne fm g_newFrom (by decide)
        have g_newTo := gs_ne fm g_newTo (by decide)
        have g_read := gs_ne fm g_read (by decide)
        have g_newFirst := gs_eq fm hlen (by decide)
        have mu := mu.setF fm (by decide)
        have hlen := gs_len fm hlen
        refine x_aload_n C d_Mo_reads_85 rfl rfl ?_
        refine x_get C k_Mo f_Mo_82 d_Mo_reads_86 fm g_newFirst ?_
        refine x_iconst (v := -1) C d_Mo_reads_89 (by decide) ?_
        refine x_icmp_ne (tgt := 95) C d_Mo_reads_90 rfl (fun q90 => ?_) (fun q90 => ?_)
        · skip
          have hFT := show tFT ks ns n 1 = true by unfold tFT; rw [decide_eq_false q90]; rfl
          have hFT1 := tFT_iff.mp hFT
          replace g_read := g_read.trans (show _ = some (Value.int (nI 2)) by rw [if_pos hFT1.1])
          have e1 : tT ks ns n 1 = ns 1 := by unfold tT; rw [if_pos hFT1.1]
          replace g_newFirst := g_newFirst.trans (show _ = some (Value.int (ns 1)) by rw [e1])
          refine x_aload_n C d_Mo_reads_95 rfl rfl ?_
          refine x_get C k_Mo f_Mo_22 d_Mo_reads_96 fm g_numbers ?_
          refine x_iconst (v := 0) C d_Mo_reads_99 (by decide) ?_
          refine x_iald C d_Mo_reads_100 fnu (vp_in_nI (n := 0) (by decide) (by decide)) ?_
          rw [show (0 : Int32).toNatClampNeg = 0 by decide]
          refine x_iconst (v := 2) C d_Mo_reads_101 (by decide) ?_
          refine x_icmp_ne (tgt := 129) C d_Mo_reads_102 rfl (fun q102 => ?_) (fun q102 => ?_)
          · skip
            refine x_iconst (v := 0) C d_Mo_reads_129 (by decide) ?_
            refine x_istore_n (lv' := [(1, _), (0, _)]) C d_Mo_reads_130 rfl (by decide) (by rfl) ?_
            exact loop 61 0 _ _ (by omega) (by omega) fm mu fki fnu kp g_read g_newFirst g_newSecond g_newFalls g_newFrom g_newTo lt_0 hn0 q38 q50 q102 hFT
          · skip
            have hW := tp_w hn0 q38 q102 (by decide) (by decide)
            refine x_aload_n C d_Mo_reads_105 rfl rfl ?_
            refine x_callV C l_Mo_88 v_Mo_readsConditions d_Mo_reads_106 (m_Mo_readsConditions (p := 2) fm hlen g_kinds g_numbers g_pending g_read fki fnu hn60 (by omega) rfl) fm rfl (by rfl) (by rfl) (by decide) (by decide) (Nat.le_of_ble_eq_true rfl) ?_
            rintro v9 h9 ⟨fs9, fm', mu9, kp9, (⟨htn, rfl⟩ | ⟨k, fr, htc, rfl, g9_read, g9_newFrom, g9_newTo, hf1, hf0, hk8, hk60⟩)⟩
            · skip
              have fki := kp9.get fki (nm_c (by first | assumption | exact Ne.symm (by assumption) | exact x_ne fki fm (by simp)) nm_n)
              have fnu := kp9.get fnu (nm_c (by first | assumption | exact Ne.symm (by assumption) | exact x_ne fnu fm (by simp)) nm_n)
              have kp := kp.call kp9 (kc_c (Or.inl (by simp)) kc_n)
              have fm := fm'
              have hlen := mu9.1.trans hlen
              have g_kinds := mu9.get g_kinds (by decide)
              have g_numbers := mu9.get g_numbers (by decide)
              have g_pending := mu9.get g_pending (by decide)
              have g_newSecond := mu9.get g_newSecond (by decide)
              have g_newFalls := mu9.get g_newFalls (by decide)
              have g_newFirst := mu9.get g_newFirst (by decide)
              have mu := mu.tr mu9 (by decide)
              refine x_if_eq (tgt := 127) C d_Mo_reads_109 rfl (fun q109 => ?_) (fun q109 => ?_)
              · skip
                refine x_iconst (v := 0) C d_Mo_reads_127 (by decide) ?_
                refine x_zret C d_Mo_reads_128 (by rfl) ?_
                first | exact ⟨_, fm, mu, kp, Or.inl ⟨by rw [tp_2 hW q102, if_pos hFT, htn]; rfl, rfl⟩⟩ | exact ⟨_, fm, mu, kp, Or.inl ⟨by rw [tp_2 hW q102, if_pos hFT, htc]; show (if 2 + 4 * k = n then _ else none) = none; rw [if_neg hne], rfl⟩⟩ | exact ⟨_, fm, mu, kp, Or.inr ⟨((2, -1, ns 1, -1, false), (0, 0, 0, k, 2)), fr, 2 + 4 * k, by rw [tp_2 hW q102, if_pos hFT, htc]; show (if 2 + 4 * k = n then _ else none) = _; rw [if_pos hne], rfl, g_newFirst, g_newSecond, g_newFalls, g_newFrom, g_newTo, hMF⟩⟩
              · skip
                exact absurd q109 (by decide)
            · skip
              have fki := kp9.get fki (nm_c (by first | assumption | exact Ne.symm (by assumption) | exact x_ne fki fm (by simp)) nm_n)
              have fnu := kp9.get fnu (nm_c (by first | assumption | exact Ne.symm (by assumption) | exact x_ne fnu fm (by simp)) nm_n)
              have kp := kp.call kp9 (kc_c (Or.inl (by simp)) kc_n)
              have fm := fm'
              have hlen := mu9.1.trans hlen
              have g_kinds := mu9.get g_kinds (by decide)
              have g_numbers := mu9.get g_numbers (by decide)
              have g_pending := mu9.get g_pending (by decide)
              have g_newSecond := mu9.get g_newSecond (by decide)
              have g_newFalls := mu9.get g_newFalls (by decide)
              have g_newFirst := mu9.get g_newFirst (by decide)
              have g_read := g9_read
              have g_newFrom := g9_newFrom
              have g_newTo := g9_newTo
              have mu := mu.tr mu9 (by decide)
              have hMF := mFT.of hf1 hf0 hk60
              refine x_if_eq (tgt := 127) C d_Mo_reads_109 rfl (fun q109 => ?_) (fun q109 => ?_)
              · skip
                exact absurd q109 (by decide)
              · skip
                refine x_aload_n C d_Mo_reads_112 rfl rfl ?_
                refine x_get C k_Mo f_Mo_52 d_Mo_reads_113 fm g_read ?_
                refine x_aload_n C d_Mo_reads_116 rfl rfl ?_
                refine x_get C k_Mo f_Mo_49 d_Mo_reads_117 fm g_pending ?_
                refine x_icmp_ne (tgt := 127) C d_Mo_reads_120 rfl (fun q120 => ?_) (fun q120 => ?_)
                · skip
                  have hne : ¬ 2 + 4 * k = n := fun z => q120 (by rw [z])
                  refine x_iconst (v := 0) C d_Mo_reads_127 (by decide) ?_
                  refine x_zret C d_Mo_reads_128 (by rfl) ?_
                  first | exact ⟨_, fm, mu, kp, Or.inl ⟨by rw [tp_2 hW q102, if_pos hFT, htn]; rfl, rfl⟩⟩ | exact ⟨_, fm, mu, kp, Or.inl ⟨by rw [tp_2 hW q102, if_pos hFT, htc]; show (if 2 + 4 * k = n then _ else none) = none; rw [if_neg hne], rfl⟩⟩ | exact ⟨_, fm, mu, kp, Or.inr ⟨((2, -1, ns 1, -1, false), (0, 0, 0, k, 2)), fr, 2 + 4 * k, by rw [tp_2 hW q102, if_pos hFT, htc]; show (if 2 + 4 * k = n then _ else none) = _; rw [if_pos hne], rfl, g_newFirst, g_newSecond, g_newFalls, g_newFrom, g_newTo, hMF⟩⟩
                · skip
                  have hne : 2 + 4 * k = n := (nI_eq (by omega) (by omega)).mp q120
                  refine x_iconst (v := 1) C d_Mo_reads_123 (by decide) ?_
                  refine x_goto (tgt := 128) C d_Mo_reads_124 rfl ?_
                  refine x_zret C d_Mo_reads_128 (by rfl) ?_
                  first | exact ⟨_, fm, mu, kp, Or.inl ⟨by rw [tp_2 hW q102, if_pos hFT, htn]; rfl, rfl⟩⟩ | exact ⟨_, fm, mu, kp, Or.inl ⟨by rw [tp_2 hW q102, if_pos hFT, htc]; show (if 2 + 4 * k = n then _ else none) = none; rw [if_neg hne], rfl⟩⟩ | exact ⟨_, fm, mu, kp, Or.inr ⟨((2, -1, ns 1, -1, false), (0, 0, 0, k, 2)), fr, 2 + 4 * k, by rw [tp_2 hW q102, if_pos hFT, htc]; show (if 2 + 4 * k = n then _ else none) = _; rw [if_pos hne], rfl, g_newFirst, g_newSecond, g_newFalls, g_newFrom, g_newTo, hMF⟩⟩
        · skip
          refine x_iconst (v := 0) C d_Mo_reads_93 (by decide) ?_
          refine x_zret C d_Mo_reads_94 (by rfl) ?_
          exact ⟨_, fm, mu, kp, Or.inl ⟨tp_noFT q50 (fun z => by have y := tFT_iff.mp z; unfold tT at q90; rw [if_pos y.1] at q90; exact y.2 q90), rfl⟩⟩
      · skip
        have hW := tp_w hn0 q38 q50 (by decide) (by decide)
        refine x_aload_n C d_Mo_reads_53 rfl rfl ?_
        obtain ⟨ok, r, Q, ls, hL⟩ : ∃ ok r Q ls, tLst ks ns n 1 = (ok, r, Q, ls) := ⟨_, _, _, _, rfl⟩
        refine x_callV C l_Mo_95 v_Mo_readsSelect d_Mo_reads_54 (m_Mo_readsSelect (p := 1) fm hlen g_kinds g_numbers g_pending g_read fki fnu hn60 (by omega) hL) fm rfl (by rfl) (by rfl) (by decide) (by decide) (Nat.le_of_ble_eq_true rfl) ?_
        rintro v10 h10 ⟨fs10, fm', mu10, kp10, (⟨rfl, hno⟩ | ⟨k, fr, rfl, hok, hs7, htc, g10_read, g10_newFirst, g10_newSecond, g10_newFalls, g10_newFrom, g10_newTo, hFT, he6⟩)⟩
        · skip
          have fki := kp10.get fki (nm_c (by first | assumption | exact Ne.symm (by assumption) | exact x_ne fki fm (by simp)) nm_n)
          have fnu := kp10.get fnu (nm_c (by first | assumption | exact Ne.symm (by assumption) | exact x_ne fnu fm (by simp)) nm_n)
          have kp := kp.call kp10 (kc_c (Or.inl (by simp)) kc_n)
          have fm := fm'
          have hlen := mu10.1.trans hlen
          have g_kinds := mu10.get g_kinds (by decide)
          have g_numbers := mu10.get g_numbers (by decide)
          have g_pending := mu10.get g_pending (by decide)
          have mu := mu.tr mu10 (by decide)
          refine x_if_eq (tgt := 75) C d_Mo_reads_57 rfl (fun q57 => ?_) (fun q57 => ?_)
          · skip
            refine x_iconst (v := 0) C d_Mo_reads_75 (by decide) ?_
            refine x_zret C d_Mo_reads_76 (by rfl) ?_
            first | exact ⟨_, fm, mu, kp, Or.inl ⟨(tp_3 hW q50).trans hno, rfl⟩⟩ | exact ⟨_, fm, mu, kp, Or.inl ⟨by rw [tp_3 hW q50, ts_some hL hok hs7 htc, if_neg hne], rfl⟩⟩ | exact ⟨_, fm, mu, kp, Or.inr ⟨_, fr, _, by rw [tp_3 hW q50, ts_some hL hok hs7 htc, if_pos hne], rfl, g_newFirst, g_newSecond, g_newFalls, g_newFrom, g_newTo, hFT⟩⟩
          · skip
            exact absurd q57 (by decide)
        · skip
          have fki := kp10.get fki (nm_c (by first | assumption | exact Ne.symm (by assumption) | exact x_ne fki fm (by simp)) nm_n)
          have fnu := kp10.get fnu (nm_c (by first | assumption | exact Ne.symm (by assumption) | exact x_ne fnu fm (by simp)) nm_n)
          have kp := kp.call kp10 (kc_c (Or.inl (by simp)) kc_n)
          have fm := fm'
          have hlen := mu10.1.trans hlen
          have g_kinds := mu10.get g_kinds (by decide)
          have g_numbers := mu10.get g_numbers (by decide)
          have g_pending := mu10.get g_pending (by decide)
          have g_read := g10_read
          have g_newFrom := g10_newFrom
          have g_newTo := g10_newTo
          have g_newFirst := g10_newFirst
          have g_newSecond := g10_newSecond
          have g_newFalls := g10_newFalls
          have mu := mu.tr mu10 (by decide)
          refine x_if_eq (tgt := 75) C d_Mo_reads_57 rfl (fun q57 => ?_) (fun q57 => ?_)
          · skip
            exact absurd q57 (by decide)
          · skip
            refine x_aload_n C d_Mo_reads_60 rfl rfl ?_
            refine x_get C k_Mo f_Mo_52 d_Mo_reads_61 fm g_read ?_
            refine x_aload_n C d_Mo_reads_64 rfl rfl ?_
            refine x_get C k_Mo f_Mo_49 d_Mo_reads_65 fm g_pending ?_
            refine x_icmp_ne (tgt := 75) C d_Mo_reads_68 rfl (fun q68 => ?_) (fun q68 => ?_)
            · skip
              have hne : ¬ tEnd ks ns n (tB ks n Q + 4 * k) = n := fun z => q68 (by rw [z])
              refine x_iconst (v := 0) C d_Mo_reads_75 (by decide) ?_
              refine x_zret C d_Mo_reads_76 (by rfl) ?_
              first | exact ⟨_, fm, mu, kp, Or.inl ⟨(tp_3 hW q50).trans hno, rfl⟩⟩ | exact ⟨_, fm, mu, kp, Or.inl ⟨by rw [tp_3 hW q50, ts_some hL hok hs7 htc, if_neg hne], rfl⟩⟩ | exact ⟨_, fm, mu, kp, Or.inr ⟨_, fr, _, by rw [tp_3 hW q50, ts_some hL hok hs7 htc, if_pos hne], rfl, g_newFirst, g_newSecond, g_newFalls, g_newFrom, g_newTo, hFT⟩⟩
            · skip
              have hne : tEnd ks ns n (tB ks n Q + 4 * k) = n := (nI_eq (by omega) (by omega)).mp q68
              refine x_iconst (v := 1) C d_Mo_reads_71 (by decide) ?_
              refine x_goto (tgt := 76) C d_Mo_reads_72 rfl ?_
              refine x_zret C d_Mo_reads_76 (by rfl) ?_
              first | exact ⟨_, fm, mu, kp, Or.inl ⟨(tp_3 hW q50).trans hno, rfl⟩⟩ | exact ⟨_, fm, mu, kp, Or.inl ⟨by rw [tp_3 hW q50, ts_some hL hok hs7 htc, if_neg hne], rfl⟩⟩ | exact ⟨_, fm, mu, kp, Or.inr ⟨_, fr, _, by rw [tp_3 hW q50, ts_some hL hok hs7 htc, if_pos hne], rfl, g_newFirst, g_newSecond, g_newFalls, g_newFrom, g_newTo, hFT⟩⟩
    · skip
      refine x_iconst (v := 0) C d_Mo_reads_41 (by decide) ?_
      refine x_zret C d_Mo_reads_42 (by rfl) ?_
      first | exact ⟨_, fm, mu, kp, Or.inl ⟨tp_none0 (Or.inl hn0), rfl⟩⟩ | exact ⟨_, fm, mu, kp, Or.inl ⟨tp_none0 (Or.inr q38), rfl⟩⟩
set_option maxRecDepth 20000 in
set_option maxHeartbeats 1000000 in
theorem m_Mo_haveColumns {V : xV} {h : xH} {mki mnu mco n t1 : Nat} {ks ns c : Nat → Int32} {n2 : Int32} {m : Nat} {fs : List Value} (fm : h m = some (.inr (8, fs))) (hlen : fs.length = 29) (g_kinds : fs[5]? = some (.ref mki)) (g_numbers : fs[6]? = some (.ref mnu)) (g_pending : fs[7]? = some (.int (nI n))) (g_columns : fs[1]? = some (.ref mco)) (g_newFirst : fs[24]? = some (.int (nI t1))) (g_newSecond : fs[25]? = some (.int n2)) (fki : h mki = some (xI V 60 ks)) (fnu : h mnu = some (xI V 60 ns)) (fco : h mco = some (xI V 10 c)) (hn60 : n ≤ 60) (ht1 : t1 < 10) (ht2 : n2 = -1 ∨ ∃ t, t < 10 ∧ n2 = nI t) : xM V y_Mo_haveColumns b_Mo_haveColumns 5 (some .boolean) 0 [.ref m] h 0 0 (fun v h' => h' = h ∧ v = some (.int (bI (decide (∀ jj, jj < n → mCol ks ns c (nI t1) n2 jj = true))))) := by
  refine xM_of false (by decide) (fun h => nomatch h) (Nat.le_of_ble_eq_true rfl) (fun K C => ?_)
  show K 0 0 h 0 [(0, .ref m)] []
  have loop : ∀ mq : Nat, ∀ (i : Nat) (bb : Bool), n - i < mq → i ≤ n → bb = decide (∀ jj, jj < i → mCol ks ns c (nI t1) n2 jj = true) → K 0 0 h 4 [(2, .int (nI i)), (1, .int (bI bb)), (0, .ref m)] [] := by
    intro mq
    induction mq with
    | zero => intro i bb hm hi hbb; omega
    | succ mq ih =>
      intro i bb hm hi hbb
      refine x_iload_n C d_Mo_haveColumns_4 rfl rfl ?_
      refine x_aload_n C d_Mo_haveColumns_5 rfl rfl ?_
      refine x_get C k_Mo f_Mo_49 d_Mo_haveColumns_6 fm g_pending ?_
      refine x_icmp_ge (tgt := 116) C d_Mo_haveColumns_9 rfl (fun q9 => ?_) (fun q9 => ?_)
      · skip
        have hi2 : i = n := by have := nge_of q9 (by omega); omega
        refine x_iload_n C d_Mo_haveColumns_116 rfl rfl ?_
        refine x_zret C d_Mo_haveColumns_117 (by cases bb <;> rfl) ?_
        subst hi2
        exact ⟨rfl, by rw [hbb]⟩
      · skip
        have hi2 := nlt_of q9 (by omega) (by omega)
        refine x_aload_n C d_Mo_haveColumns_12 rfl rfl ?_
        refine x_get C k_Mo f_Mo_19 d_Mo_haveColumns_13 fm g_kinds ?_
        refine x_iload_n C d_Mo_haveColumns_16 rfl rfl ?_
        refine x_iald C d_Mo_haveColumns_17 fki (vp_in_nI (by omega) (by decide)) ?_
        rw [nI_clamp (by omega)]
        refine x_iconst (v := 2) C d_Mo_haveColumns_18 (by decide) ?_
        refine x_icmp_ne (tgt := 110) C d_Mo_haveColumns_19 rfl (fun q19 => ?_) (fun q19 => ?_)
        · skip
          refine x_iinc (v := nI (i + 1)) (k0 := 0) (lv' := [(2, _), (1, _), (0, _)]) C d_Mo_haveColumns_110 (by rfl) (nI_1 i) (by decide) (by rfl) ?_
          refine x_goto (tgt := 4) C d_Mo_haveColumns_113 rfl ?_
          first | exact ih (i + 1) bb (by omega) (by omega) (by rw [← all_step (p := fun jj => mCol ks ns c (nI t1) n2 jj) hbb (mc_no q19)]; simp) | exact ih (i + 1) false (by omega) (by omega) (by rw [← all_step (p := fun jj => mCol ks ns c (nI t1) n2 jj) hbb (rfl)]; rw [hb]; rfl) | exact ih (i + 1) false (by omega) (by omega) (by rw [← all_step (p := fun jj => mCol ks ns c (nI t1) n2 jj) hbb (mc_m q19 h9 q76)]; simp) | exact ih (i + 1) false (by omega) (by omega) (by rw [← all_step (p := fun jj => mCol ks ns c (nI t1) n2 jj) hbb (mc_2 q19 h9 e2 ht)]; rw [decide_eq_true q101]; simp) | exact ih (i + 1) false (by omega) (by omega) (by rw [← all_step (p := fun jj => mCol ks ns c (nI t1) n2 jj) hbb (mc_1 q19 h9 rfl ht1)]; rw [decide_eq_true q101]; simp) | exact ih (i + 1) true (by omega) (by omega) (by rw [← all_step (p := fun jj => mCol ks ns c (nI t1) n2 jj) hbb (mc_2 q19 h9 e2 ht)]; rw [decide_eq_false q101, hb]; rfl) | exact ih (i + 1) true (by omega) (by omega) (by rw [← all_step (p := fun jj => mCol ks ns c (nI t1) n2 jj) hbb (mc_1 q19 h9 rfl ht1)]; rw [decide_eq_false q101, hb]; rfl)
        · skip
          refine x_aload_n C d_Mo_haveColumns_22 rfl rfl ?_
          refine x_get C k_Mo f_Mo_22 d_Mo_haveColumns_23 fm g_numbers ?_
          refine x_iload_n C d_Mo_haveColumns_26 rfl rfl ?_
          refine x_iald C d_Mo_haveColumns_27 fnu (vp_in_nI (by omega) (by decide)) ?_
          rw [nI_clamp (by omega)]
          refine x_bipush (v := 9) C d_Mo_haveColumns_28 (by decide) ?_
          refine x_icmp_le (tgt := 37) C d_Mo_haveColumns_30 rfl (fun q30 => ?_) (fun q30 => ?_)
          · skip
            have h9 : ¬ 9 < ns i := Int32.not_lt.mpr q30
            refine x_iconst (v := 0) C d_Mo_haveColumns_37 (by decide) ?_
            refine x_istore_n (lv' := [(3, _), (2, _), (1, _), (0, _)]) C d_Mo_haveColumns_38 rfl (by decide) (by rfl) ?_
            refine x_iload_n C d_Mo_haveColumns_39 rfl rfl ?_
            refine x_if_eq (tgt := 55) C d_Mo_haveColumns_40 rfl (fun q40 => ?_) (fun q40 => ?_)
            · skip
              refine x_aload_n C d_Mo_haveColumns_55 rfl rfl ?_
              refine x_get C k_Mo f_Mo_22 d_Mo_haveColumns_56 fm g_numbers ?_
              refine x_iload_n C d_Mo_haveColumns_59 rfl rfl ?_
              refine x_iald C d_Mo_haveColumns_60 fnu (vp_in_nI (by omega) (by decide)) ?_
              try rw [nI_clamp (by omega)]
              refine x_istore (lv' := [(4, _), (3, _), (2, _), (1, _), (0, _)]) C d_Mo_haveColumns_61 (by decide) (by rfl) ?_
              refine x_iload_n C d_Mo_haveColumns_63 rfl rfl ?_
              refine x_if_eq (tgt := 108) C d_Mo_haveColumns_64 rfl (fun q64 => ?_) (fun q64 => ?_)
              · skip
                have hb := bI_f q64
                refine x_iconst (v := 0) C d_Mo_haveColumns_108 (by decide) ?_
                refine x_istore_n (lv' := [(1, _), (4, _), (3, _), (2, _), (0, _)]) C d_Mo_haveColumns_109 rfl (by decide) (by rfl) ?_
                refine x_iinc (v := nI (i + 1)) (k0 := 3) (lv' := [(2, _), (1, _), (4, _), (3, _), (0, _)]) C d_Mo_haveColumns_110 (by rfl) (nI_1 i) (by decide) (by rfl) ?_
                refine x_goto (tgt := 4) C d_Mo_haveColumns_113 rfl ?_
                refine x_lv (lv' := [(2, _), (1, _), (0, _)]) [0, 1, 4] C (by rfl) ?_
                first | exact ih (i + 1) bb (by omega) (by omega) (by rw [← all_step (p := fun jj => mCol ks ns c (nI t1) n2 jj) hbb (mc_no q19)]; simp) | exact ih (i + 1) false (by omega) (by omega) (by rw [← all_step (p := fun jj => mCol ks ns c (nI t1) n2 jj) hbb (rfl)]; rw [hb]; rfl) | exact ih (i + 1) false (by omega) (by omega) (by rw [← all_step (p := fun jj => mCol ks ns c (nI t1) n2 jj) hbb (mc_m q19 h9 q76)]; simp) | exact ih (i + 1) false (by omega) (by omega) (by rw [← all_step (p := fun jj => mCol ks ns c (nI t1) n2 jj) hbb (mc_2 q19 h9 e2 ht)]; rw [decide_eq_true q101]; simp) | exact ih (i + 1) false (by omega) (by omega) (by rw [← all_step (p := fun jj => mCol ks ns c (nI t1) n2 jj) hbb (mc_1 q19 h9 rfl ht1)]; rw [decide_eq_true q101]; simp) | exact ih (i + 1) true (by omega) (by omega) (by rw [← all_step (p := fun jj => mCol ks ns c (nI t1) n2 jj) hbb (mc_2 q19 h9 e2 ht)]; rw [decide_eq_false q101, hb]; rfl) | exact ih (i + 1) true (by omega) (by omega) (by rw [← all_step (p := fun jj => mCol ks ns c (nI t1) n2 jj) hbb (mc_1 q19 h9 rfl ht1)]; rw [decide_eq_false q101, hb]; rfl)
              · skip
                have hb := bI_t q64
                refine x_iload_n C d_Mo_haveColumns_67 rfl rfl ?_
                refine x_if_eq (tgt := 79) C d_Mo_haveColumns_68 rfl (fun q68 => ?_) (fun q68 => ?_)
                · skip
                  refine x_iload C d_Mo_haveColumns_79 rfl ?_
                  refine x_aload_n C d_Mo_haveColumns_81 rfl rfl ?_
                  refine x_get C k_Mo f_Mo_7 d_Mo_haveColumns_82 fm g_columns ?_
                  refine x_iload_n C d_Mo_haveColumns_85 rfl rfl ?_
                  refine x_if_eq (tgt := 96) C d_Mo_haveColumns_86 rfl (fun q86 => ?_) (fun q86 => ?_)
                  · skip
                    refine x_aload_n C d_Mo_haveColumns_96 rfl rfl ?_
                    refine x_get C k_Mo f_Mo_82 d_Mo_haveColumns_97 fm g_newFirst ?_
                    try rw [e2]
                    refine x_iald C d_Mo_haveColumns_100 fco (by first | exact vp_in_nI ht1 (by decide) | exact vp_in_nI ht (by decide)) ?_
                    rw [nI_clamp (by omega)]
                    refine x_icmp_ge (tgt := 108) C d_Mo_haveColumns_101 rfl (fun q101 => ?_) (fun q101 => ?_)
                    · skip
                      refine x_iconst (v := 0) C d_Mo_haveColumns_108 (by decide) ?_
                      refine x_istore_n (lv' := [(1, _), (4, _), (3, _), (2, _), (0, _)]) C d_Mo_haveColumns_109 rfl (by decide) (by rfl) ?_
                      refine x_iinc (v := nI (i + 1)) (k0 := 3) (lv' := [(2, _), (1, _), (4, _), (3, _), (0, _)]) C d_Mo_haveColumns_110 (by rfl) (nI_1 i) (by decide) (by rfl) ?_
                      refine x_goto (tgt := 4) C d_Mo_haveColumns_113 rfl ?_
                      refine x_lv (lv' := [(2, _), (1, _), (0, _)]) [0, 1, 4] C (by rfl) ?_
                      first | exact ih (i + 1) bb (by omega) (by omega) (by rw [← all_step (p := fun jj => mCol ks ns c (nI t1) n2 jj) hbb (mc_no q19)]; simp) | exact ih (i + 1) false (by omega) (by omega) (by rw [← all_step (p := fun jj => mCol ks ns c (nI t1) n2 jj) hbb (rfl)]; rw [hb]; rfl) | exact ih (i + 1) false (by omega) (by omega) (by rw [← all_step (p := fun jj => mCol ks ns c (nI t1) n2 jj) hbb (mc_m q19 h9 q76)]; simp) | exact ih (i + 1) false (by omega) (by omega) (by rw [← all_step (p := fun jj => mCol ks ns c (nI t1) n2 jj) hbb (mc_2 q19 h9 e2 ht)]; rw [decide_eq_true q101]; simp) | exact ih (i + 1) false (by omega) (by omega) (by rw [← all_step (p := fun jj => mCol ks ns c (nI t1) n2 jj) hbb (mc_1 q19 h9 rfl ht1)]; rw [decide_eq_true q101]; simp) | exact ih (i + 1) true (by omega) (by omega) (by rw [← all_step (p := fun jj => mCol ks ns c (nI t1) n2 jj) hbb (mc_2 q19 h9 e2 ht)]; rw [decide_eq_false q101, hb]; rfl) | exact ih (i + 1) true (by omega) (by omega) (by rw [← all_step (p := fun jj => mCol ks ns c (nI t1) n2 jj) hbb (mc_1 q19 h9 rfl ht1)]; rw [decide_eq_false q101, hb]; rfl)
                    · skip
                      refine x_iconst (v := 1) C d_Mo_haveColumns_104 (by decide) ?_
                      refine x_goto (tgt := 109) C d_Mo_haveColumns_105 rfl ?_
                      refine x_istore_n (lv' := [(1, _), (4, _), (3, _), (2, _), (0, _)]) C d_Mo_haveColumns_109 rfl (by decide) (by rfl) ?_
                      refine x_iinc (v := nI (i + 1)) (k0 := 3) (lv' := [(2, _), (1, _), (4, _), (3, _), (0, _)]) C d_Mo_haveColumns_110 (by rfl) (nI_1 i) (by decide) (by rfl) ?_
                      refine x_goto (tgt := 4) C d_Mo_haveColumns_113 rfl ?_
                      refine x_lv (lv' := [(2, _), (1, _), (0, _)]) [0, 1, 4] C (by rfl) ?_
                      first | exact ih (i + 1) bb (by omega) (by omega) (by rw [← all_step (p := fun jj => mCol ks ns c (nI t1) n2 jj) hbb (mc_no q19)]; simp) | exact ih (i + 1) false (by omega) (by omega) (by rw [← all_step (p := fun jj => mCol ks ns c (nI t1) n2 jj) hbb (rfl)]; rw [hb]; rfl) | exact ih (i + 1) false (by omega) (by omega) (by rw [← all_step (p := fun jj => mCol ks ns c (nI t1) n2 jj) hbb (mc_m q19 h9 q76)]; simp) | exact ih (i + 1) false (by omega) (by omega) (by rw [← all_step (p := fun jj => mCol ks ns c (nI t1) n2 jj) hbb (mc_2 q19 h9 e2 ht)]; rw [decide_eq_true q101]; simp) | exact ih (i + 1) false (by omega) (by omega) (by rw [← all_step (p := fun jj => mCol ks ns c (nI t1) n2 jj) hbb (mc_1 q19 h9 rfl ht1)]; rw [decide_eq_true q101]; simp) | exact ih (i + 1) true (by omega) (by omega) (by rw [← all_step (p := fun jj => mCol ks ns c (nI t1) n2 jj) hbb (mc_2 q19 h9 e2 ht)]; rw [decide_eq_false q101, hb]; rfl) | exact ih (i + 1) true (by omega) (by omega) (by rw [← all_step (p := fun jj => mCol ks ns c (nI t1) n2 jj) hbb (mc_1 q19 h9 rfl ht1)]; rw [decide_eq_false q101, hb]; rfl)
                  · skip
                    exact absurd q86 (by decide)
                · skip
                  exact absurd q68 (by decide)
            · skip
              exact absurd q40 (by decide)
          · skip
            have h9 : 9 < ns i := Int32.not_le.mp q30
            refine x_iconst (v := 1) C d_Mo_haveColumns_33 (by decide) ?_
            refine x_goto (tgt := 38) C d_Mo_haveColumns_34 rfl ?_
            refine x_istore_n (lv' := [(3, _), (2, _), (1, _), (0, _)]) C d_Mo_haveColumns_38 rfl (by decide) (by rfl) ?_
            refine x_iload_n C d_Mo_haveColumns_39 rfl rfl ?_
            refine x_if_eq (tgt := 55) C d_Mo_haveColumns_40 rfl (fun q40 => ?_) (fun q40 => ?_)
            · skip
              exact absurd q40 (by decide)
            · skip
              refine x_aload_n C d_Mo_haveColumns_43 rfl rfl ?_
              refine x_get C k_Mo f_Mo_22 d_Mo_haveColumns_44 fm g_numbers ?_
              refine x_iload_n C d_Mo_haveColumns_47 rfl rfl ?_
              refine x_iald C d_Mo_haveColumns_48 fnu (vp_in_nI (by omega) (by decide)) ?_
              rw [nI_clamp (by omega)]
              refine x_bipush (v := 10) C d_Mo_haveColumns_49 (by decide) ?_
              refine x_isub C d_Mo_haveColumns_51 ?_
              refine x_goto (tgt := 61) C d_Mo_haveColumns_52 rfl ?_
              try rw [nI_clamp (by omega)]
              refine x_istore (lv' := [(4, _), (3, _), (2, _), (1, _), (0, _)]) C d_Mo_haveColumns_61 (by decide) (by rfl) ?_
              refine x_iload_n C d_Mo_haveColumns_63 rfl rfl ?_
              refine x_if_eq (tgt := 108) C d_Mo_haveColumns_64 rfl (fun q64 => ?_) (fun q64 => ?_)
              · skip
                have hb := bI_f q64
                refine x_iconst (v := 0) C d_Mo_haveColumns_108 (by decide) ?_
                refine x_istore_n (lv' := [(1, _), (4, _), (3, _), (2, _), (0, _)]) C d_Mo_haveColumns_109 rfl (by decide) (by rfl) ?_
                refine x_iinc (v := nI (i + 1)) (k0 := 3) (lv' := [(2, _), (1, _), (4, _), (3, _), (0, _)]) C d_Mo_haveColumns_110 (by rfl) (nI_1 i) (by decide) (by rfl) ?_
                refine x_goto (tgt := 4) C d_Mo_haveColumns_113 rfl ?_
                refine x_lv (lv' := [(2, _), (1, _), (0, _)]) [0, 1, 4] C (by rfl) ?_
                first | exact ih (i + 1) bb (by omega) (by omega) (by rw [← all_step (p := fun jj => mCol ks ns c (nI t1) n2 jj) hbb (mc_no q19)]; simp) | exact ih (i + 1) false (by omega) (by omega) (by rw [← all_step (p := fun jj => mCol ks ns c (nI t1) n2 jj) hbb (rfl)]; rw [hb]; rfl) | exact ih (i + 1) false (by omega) (by omega) (by rw [← all_step (p := fun jj => mCol ks ns c (nI t1) n2 jj) hbb (mc_m q19 h9 q76)]; simp) | exact ih (i + 1) false (by omega) (by omega) (by rw [← all_step (p := fun jj => mCol ks ns c (nI t1) n2 jj) hbb (mc_2 q19 h9 e2 ht)]; rw [decide_eq_true q101]; simp) | exact ih (i + 1) false (by omega) (by omega) (by rw [← all_step (p := fun jj => mCol ks ns c (nI t1) n2 jj) hbb (mc_1 q19 h9 rfl ht1)]; rw [decide_eq_true q101]; simp) | exact ih (i + 1) true (by omega) (by omega) (by rw [← all_step (p := fun jj => mCol ks ns c (nI t1) n2 jj) hbb (mc_2 q19 h9 e2 ht)]; rw [decide_eq_false q101, hb]; rfl) | exact ih (i + 1) true (by omega) (by omega) (by rw [← all_step (p := fun jj => mCol ks ns c (nI t1) n2 jj) hbb (mc_1 q19 h9 rfl ht1)]; rw [decide_eq_false q101, hb]; rfl)
              · skip
                have hb := bI_t q64
                refine x_iload_n C d_Mo_haveColumns_67 rfl rfl ?_
                refine x_if_eq (tgt := 79) C d_Mo_haveColumns_68 rfl (fun q68 => ?_) (fun q68 => ?_)
                · skip
                  exact absurd q68 (by decide)
                · skip
                  refine x_aload_n C d_Mo_haveColumns_71 rfl rfl ?_
                  refine x_get C k_Mo f_Mo_85 d_Mo_haveColumns_72 fm g_newSecond ?_
                  refine x_iconst (v := -1) C d_Mo_haveColumns_75 (by decide) ?_
                  refine x_icmp_eq (tgt := 108) C d_Mo_haveColumns_76 rfl (fun q76 => ?_) (fun q76 => ?_)
                  · skip
                    refine x_iconst (v := 0) C d_Mo_haveColumns_108 (by decide) ?_
                    refine x_istore_n (lv' := [(1, _), (4, _), (3, _), (2, _), (0, _)]) C d_Mo_haveColumns_109 rfl (by decide) (by rfl) ?_
                    refine x_iinc (v := nI (i + 1)) (k0 := 3) (lv' := [(2, _), (1, _), (4, _), (3, _), (0, _)]) C d_Mo_haveColumns_110 (by rfl) (nI_1 i) (by decide) (by rfl) ?_
                    refine x_goto (tgt := 4) C d_Mo_haveColumns_113 rfl ?_
                    refine x_lv (lv' := [(2, _), (1, _), (0, _)]) [0, 1, 4] C (by rfl) ?_
                    first | exact ih (i + 1) bb (by omega) (by omega) (by rw [← all_step (p := fun jj => mCol ks ns c (nI t1) n2 jj) hbb (mc_no q19)]; simp) | exact ih (i + 1) false (by omega) (by omega) (by rw [← all_step (p := fun jj => mCol ks ns c (nI t1) n2 jj) hbb (rfl)]; rw [hb]; rfl) | exact ih (i + 1) false (by omega) (by omega) (by rw [← all_step (p := fun jj => mCol ks ns c (nI t1) n2 jj) hbb (mc_m q19 h9 q76)]; simp) | exact ih (i + 1) false (by omega) (by omega) (by rw [← all_step (p := fun jj => mCol ks ns c (nI t1) n2 jj) hbb (mc_2 q19 h9 e2 ht)]; rw [decide_eq_true q101]; simp) | exact ih (i + 1) false (by omega) (by omega) (by rw [← all_step (p := fun jj => mCol ks ns c (nI t1) n2 jj) hbb (mc_1 q19 h9 rfl ht1)]; rw [decide_eq_true q101]; simp) | exact ih (i + 1) true (by omega) (by omega) (by rw [← all_step (p := fun jj => mCol ks ns c (nI t1) n2 jj) hbb (mc_2 q19 h9 e2 ht)]; rw [decide_eq_false q101, hb]; rfl) | exact ih (i + 1) true (by omega) (by omega) (by rw [← all_step (p := fun jj => mCol ks ns c (nI t1) n2 jj) hbb (mc_1 q19 h9 rfl ht1)]; rw [decide_eq_false q101, hb]; rfl)
                  · skip
                    obtain ⟨t2, ht, e2⟩ := ht2.resolve_left q76
                    refine x_iload C d_Mo_haveColumns_79 rfl ?_
                    refine x_aload_n C d_Mo_haveColumns_81 rfl rfl ?_
                    refine x_get C k_Mo f_Mo_7 d_Mo_haveColumns_82 fm g_columns ?_
                    refine x_iload_n C d_Mo_haveColumns_85 rfl rfl ?_
                    refine x_if_eq (tgt := 96) C d_Mo_haveColumns_86 rfl (fun q86 => ?_) (fun q86 => ?_)
                    · skip
                      exact absurd q86 (by decide)
                    · skip
                      refine x_aload_n C d_Mo_haveColumns_89 rfl rfl ?_
                      refine x_get C k_Mo f_Mo_85 d_Mo_haveColumns_90 fm g_newSecond ?_
                      refine x_goto (tgt := 100) C d_Mo_haveColumns_93 rfl ?_
                      try rw [e2]
                      refine x_iald C d_Mo_haveColumns_100 fco (by first | exact vp_in_nI ht1 (by decide) | exact vp_in_nI ht (by decide)) ?_
                      rw [nI_clamp (by omega)]
                      refine x_icmp_ge (tgt := 108) C d_Mo_haveColumns_101 rfl (fun q101 => ?_) (fun q101 => ?_)
                      · skip
                        refine x_iconst (v := 0) C d_Mo_haveColumns_108 (by decide) ?_
                        refine x_istore_n (lv' := [(1, _), (4, _), (3, _), (2, _), (0, _)]) C d_Mo_haveColumns_109 rfl (by decide) (by rfl) ?_
                        refine x_iinc (v := nI (i + 1)) (k0 := 3) (lv' := [(2, _), (1, _), (4, _), (3, _), (0, _)]) C d_Mo_haveColumns_110 (by rfl) (nI_1 i) (by decide) (by rfl) ?_
                        refine x_goto (tgt := 4) C d_Mo_haveColumns_113 rfl ?_
                        refine x_lv (lv' := [(2, _), (1, _), (0, _)]) [0, 1, 4] C (by rfl) ?_
                        first | exact ih (i + 1) bb (by omega) (by omega) (by rw [← all_step (p := fun jj => mCol ks ns c (nI t1) n2 jj) hbb (mc_no q19)]; simp) | exact ih (i + 1) false (by omega) (by omega) (by rw [← all_step (p := fun jj => mCol ks ns c (nI t1) n2 jj) hbb (rfl)]; rw [hb]; rfl) | exact ih (i + 1) false (by omega) (by omega) (by rw [← all_step (p := fun jj => mCol ks ns c (nI t1) n2 jj) hbb (mc_m q19 h9 q76)]; simp) | exact ih (i + 1) false (by omega) (by omega) (by rw [← all_step (p := fun jj => mCol ks ns c (nI t1) n2 jj) hbb (mc_2 q19 h9 e2 ht)]; rw [decide_eq_true q101]; simp) | exact ih (i + 1) false (by omega) (by omega) (by rw [← all_step (p := fun jj => mCol ks ns c (nI t1) n2 jj) hbb (mc_1 q19 h9 rfl ht1)]; rw [decide_eq_true q101]; simp) | exact ih (i + 1) true (by omega) (by omega) (by rw [← all_step (p := fun jj => mCol ks ns c (nI t1) n2 jj) hbb (mc_2 q19 h9 e2 ht)]; rw [decide_eq_false q101, hb]; rfl) | exact ih (i + 1) true (by omega) (by omega) (by rw [← all_step (p := fun jj => mCol ks ns c (nI t1) n2 jj) hbb (mc_1 q19 h9 rfl ht1)]; rw [decide_eq_false q101, hb]; rfl)
                      · skip
                        refine x_iconst (v := 1) C d_Mo_haveColumns_104 (by decide) ?_
                        refine x_goto (tgt := 109) C d_Mo_haveColumns_105 rfl ?_
                        refine x_istore_n (lv' := [(1, _), (4, _), (3, _), (2, _), (0, _)]) C d_Mo_haveColumns_109 rfl (by decide) (by rfl) ?_
                        refine x_iinc (v := nI (i + 1)) (k0 := 3) (lv' := [(2, _), (1, _), (4, _), (3, _), (0, _)]) C d_Mo_haveColumns_110 (by rfl) (nI_1 i) (by decide) (by rfl) ?_
                        refine x_goto (tgt := 4) C d_Mo_haveColumns_113 rfl ?_
                        refine x_lv (lv' := [(2, _), (1, _), (0, _)]) [0, 1, 4] C (by rfl) ?_
                        first | exact ih (i + 1) bb (by omega) (by omega) (by rw [← all_step (p := fun jj => mCol ks ns c (nI t1) n2 jj) hbb (mc_no q19)]; simp) | exact ih (i + 1) false (by omega) (by omega) (by rw [← all_step (p := fun jj => mCol ks ns c (nI t1) n2 jj) hbb (rfl)]; rw [hb]; rfl) | exact ih (i + 1) false (by omega) (by omega) (by rw [← all_step (p := fun jj => mCol ks ns c (nI t1) n2 jj) hbb (mc_m q19 h9 q76)]; simp) | exact ih (i + 1) false (by omega) (by omega) (by rw [← all_step (p := fun jj => mCol ks ns c (nI t1) n2 jj) hbb (mc_2 q19 h9 e2 ht)]; rw [decide_eq_true q101]; simp) | exact ih (i + 1) false (by omega) (by omega) (by rw [← all_step (p := fun jj => mCol ks ns c (nI t1) n2 jj) hbb (mc_1 q19 h9 rfl ht1)]; rw [decide_eq_true q101]; simp) | exact ih (i + 1) true (by omega) (by omega) (by rw [← all_step (p := fun jj => mCol ks ns c (nI t1) n2 jj) hbb (mc_2 q19 h9 e2 ht)]; rw [decide_eq_false q101, hb]; rfl) | exact ih (i + 1) true (by omega) (by omega) (by rw [← all_step (p := fun jj => mCol ks ns c (nI t1) n2 jj) hbb (mc_1 q19 h9 rfl ht1)]; rw [decide_eq_false q101, hb]; rfl)
  refine x_iconst (v := 1) C d_Mo_haveColumns_0 (by decide) ?_
  refine x_istore_n (lv' := [(1, _), (0, _)]) C d_Mo_haveColumns_1 rfl (by decide) (by rfl) ?_
  refine x_iconst (v := 0) C d_Mo_haveColumns_2 (by decide) ?_
  refine x_istore_n (lv' := [(2, _), (1, _), (0, _)]) C d_Mo_haveColumns_3 rfl (by decide) (by rfl) ?_
  exact loop (n + 1) 0 true (by omega) (by omega) (by simp)
set_option maxRecDepth 20000 in
set_option maxHeartbeats 1000000 in
theorem m_Mo_wrong {V : xV} {h : xH} {mki mnu mco n : Nat} {ks ns c : Nat → Int32} {m : Nat} {fs : List Value} (fm : h m = some (.inr (8, fs))) (hlen : fs.length = 29) (g_kinds : fs[5]? = some (.ref mki)) (g_numbers : fs[6]? = some (.ref mnu)) (g_pending : fs[7]? = some (.int (nI n))) (g_columns : fs[1]? = some (.ref mco)) (fki : h mki = some (xI V 60 ks)) (fnu : h mnu = some (xI V 60 ns)) (fco : h mco = some (xI V 10 c)) (hn60 : n ≤ 60) (hv : tokS ks ns n) : xM V y_Mo_wrong b_Mo_wrong 2 (some .int) 6 [.ref m] h 0 0 (fun v h' => ∃ fs', h' m = some (.inr (8, fs')) ∧ mUp [23, 26, 27, 24, 25, 28] fs fs' ∧ xKeep [m] h h' ∧ ((tParse ks ns n = none ∧ v = some (.int (-1))) ∨ ∃ dd fr T, tParse ks ns n = some dd ∧ fs'[24]? = some (.int dd.1.2.2.1) ∧ fs'[25]? = some (.int dd.1.2.2.2.1) ∧ fs'[28]? = some (.int (bI dd.1.2.2.2.2)) ∧ fs'[26]? = some (.int (nI fr)) ∧ fs'[27]? = some (.int (nI T)) ∧ mFT fr T dd.2.2.2.2.2 dd.2.2.2.2.1 ∧ v = some (.int (faultS dd.1.1 dd.1.2.2.1 dd.1.2.2.2.1 (nI (n - 2)) (ns 2) c (decide (∀ jj, jj < n → mCol ks ns c dd.1.2.2.1 dd.1.2.2.2.1 jj = true)))))) := by
  refine xM_of false (by decide) (fun h => nomatch h) (Nat.le_of_ble_eq_true rfl) (fun K C => ?_)
  show K 0 0 h 0 [(0, .ref m)] []
  have kp : xKeep [m] h h := xKeep.rf
  have mu : mUp [23, 26, 27, 24, 25, 28] fs fs := mUp.rf
  refine x_aload_n C d_Mo_wrong_0 rfl rfl ?_
  refine x_callV C l_Mo_98 v_Mo_reads d_Mo_wrong_1 (m_Mo_reads fm hlen g_kinds g_numbers g_pending fki fnu hn60) fm rfl (by rfl) (by rfl) (by decide) (by decide) (Nat.le_of_ble_eq_true rfl) ?_
  rintro v1 h1 ⟨fs1, fm', mu1, kp1, (⟨htn, rfl⟩ | ⟨dd, fr, T, htp, rfl, g1_newFirst, g1_newSecond, g1_newFalls, g1_newFrom, g1_newTo, hFT⟩)⟩
  · skip
    have fki := kp1.get fki (nm_c (by first | assumption | exact Ne.symm (by assumption) | exact x_ne fki fm (by simp)) nm_n)
    have fnu := kp1.get fnu (nm_c (by first | assumption | exact Ne.symm (by assumption) | exact x_ne fnu fm (by simp)) nm_n)
    have fco := kp1.get fco (nm_c (by first | assumption | exact Ne.symm (by assumption) | exact x_ne fco fm (by simp)) nm_n)
    have kp := kp.call kp1 (kc_c (Or.inl (by simp)) kc_n)
    have fm := fm'
    have hlen := mu1.1.trans hlen
    have g_kinds := mu1.get g_kinds (by decide)
    have g_numbers := mu1.get g_numbers (by decide)
    have g_pending := mu1.get g_pending (by decide)
    have g_columns := mu1.get g_columns (by decide)
    have mu := mu.tr mu1 (by decide)
    refine x_if_ne (tgt := 9) C d_Mo_wrong_4 rfl (fun q4 => ?_) (fun q4 => ?_)
    · skip
      exact absurd q4 (by decide)
    · skip
      refine x_iconst (v := -1) C d_Mo_wrong_7 (by decide) ?_
      refine x_iret C d_Mo_wrong_8 ?_
      exact ⟨_, fm, mu, kp, Or.inl ⟨htn, rfl⟩⟩
  · skip
    have fki := kp1.get fki (nm_c (by first | assumption | exact Ne.symm (by assumption) | exact x_ne fki fm (by simp)) nm_n)
    have fnu := kp1.get fnu (nm_c (by first | assumption | exact Ne.symm (by assumption) | exact x_ne fnu fm (by simp)) nm_n)
    have fco := kp1.get fco (nm_c (by first | assumption | exact Ne.symm (by assumption) | exact x_ne fco fm (by simp)) nm_n)
    have kp := kp.call kp1 (kc_c (Or.inl (by simp)) kc_n)
    have fm := fm'
    have hlen := mu1.1.trans hlen
    have g_kinds := mu1.get g_kinds (by decide)
    have g_numbers := mu1.get g_numbers (by decide)
    have g_pending := mu1.get g_pending (by decide)
    have g_columns := mu1.get g_columns (by decide)
    have g_newFirst := g1_newFirst
    have g_newSecond := g1_newSecond
    have g_newFalls := g1_newFalls
    have g_newFrom := g1_newFrom
    have g_newTo := g1_newTo
    have mu := mu.tr mu1 (by decide)
    obtain ⟨⟨t1, ht1, e1⟩, ht2, ev⟩ := tp_tabs hv htp
    have hn2 := tp_two htp
    replace g_newFirst := g_newFirst.trans (show _ = some (Value.int (nI t1)) by rw [e1])
    refine x_if_ne (tgt := 9) C d_Mo_wrong_4 rfl (fun q4 => ?_) (fun q4 => ?_)
    · skip
      refine x_aload_n C d_Mo_wrong_9 rfl rfl ?_
      refine x_get C k_Mo f_Mo_22 d_Mo_wrong_10 fm g_numbers ?_
      refine x_iconst (v := 0) C d_Mo_wrong_13 (by decide) ?_
      refine x_iald C d_Mo_wrong_14 fnu (vp_in_nI (n := 0) (by decide) (by decide)) ?_
      rw [show (0 : Int32).toNatClampNeg = 0 by decide]
      refine x_if_ne (tgt := 22) C d_Mo_wrong_15 rfl (fun q15 => ?_) (fun q15 => ?_)
      · skip
        refine x_iconst (v := 0) C d_Mo_wrong_22 (by decide) ?_
        refine x_istore_n (lv' := [(1, _), (0, _)]) C d_Mo_wrong_23 rfl (by decide) (by rfl) ?_
        refine x_iload_n C d_Mo_wrong_24 rfl rfl ?_
        refine x_if_ne (tgt := 61) C d_Mo_wrong_25 rfl (fun q25 => ?_) (fun q25 => ?_)
        · skip
          exact absurd q25 (by decide)
        · skip
          refine x_aload_n C d_Mo_wrong_28 rfl rfl ?_
          refine x_aload_n C d_Mo_wrong_29 rfl rfl ?_
          refine x_get C k_Mo f_Mo_82 d_Mo_wrong_30 fm g_newFirst ?_
          refine x_callV C l_Mo_101 v_Mo_isThere d_Mo_wrong_33 (m_Mo_isThere (t := t1) fm hlen g_columns fco ht1) fm rfl (by rfl) (by rfl) (by decide) (by decide) (Nat.le_of_ble_eq_true rfl) ?_
          rintro v9 h9 ⟨rfl, rfl⟩
          refine x_if_eq (tgt := 58) C d_Mo_wrong_36 rfl (fun q36 => ?_) (fun q36 => ?_)
          · skip
            replace q36 := bI_f q36
            refine x_bipush (v := -2) C d_Mo_wrong_58 (by decide) ?_
            refine x_iret C d_Mo_wrong_60 ?_
            refine ⟨_, fm, mu, kp, Or.inr ⟨dd, fr, T, htp, by rw [e1]; exact g_newFirst, g_newSecond, g_newFalls, g_newFrom, g_newTo, hFT, congrArg (fun z => some (Value.int z)) ?_⟩⟩
            unfold faultS
            rw [ev, e1]
            rw [if_neg q15, colOf_nI ht1]
            first | (rw [if_pos (by simpa using q36)]; done) | (rw [if_neg (by simpa using q36), if_pos ⟨q44, by rw [e2, colOf_nI ht]; simpa using q55⟩]; done)
          · skip
            replace q36 := bI_t q36
            refine x_aload_n C d_Mo_wrong_39 rfl rfl ?_
            refine x_get C k_Mo f_Mo_85 d_Mo_wrong_40 fm g_newSecond ?_
            refine x_iconst (v := -1) C d_Mo_wrong_43 (by decide) ?_
            refine x_icmp_eq (tgt := 61) C d_Mo_wrong_44 rfl (fun q44 => ?_) (fun q44 => ?_)
            · skip
              refine x_iload_n C d_Mo_wrong_61 rfl rfl ?_
              refine x_if_eq (tgt := 105) C d_Mo_wrong_62 rfl (fun q62 => ?_) (fun q62 => ?_)
              · skip
                refine x_aload_n C d_Mo_wrong_105 rfl rfl ?_
                refine x_callV C l_Mo_106 v_Mo_haveColumns d_Mo_wrong_106 (m_Mo_haveColumns (t1 := t1) fm hlen g_kinds g_numbers g_pending g_columns g_newFirst g_newSecond fki fnu fco hn60 ht1 ht2) fm rfl (by rfl) (by rfl) (by decide) (by decide) (Nat.le_of_ble_eq_true rfl) ?_
                rintro v9 h9 ⟨rfl, rfl⟩
                refine x_if_ne (tgt := 115) C d_Mo_wrong_109 rfl (fun q109 => ?_) (fun q109 => ?_)
                · skip
                  replace q109 := bI_t q109
                  refine x_aload_n C d_Mo_wrong_115 rfl rfl ?_
                  refine x_get C k_Mo f_Mo_22 d_Mo_wrong_116 fm g_numbers ?_
                  refine x_iconst (v := 0) C d_Mo_wrong_119 (by decide) ?_
                  refine x_iald C d_Mo_wrong_120 fnu (vp_in_nI (n := 0) (by decide) (by decide)) ?_
                  rw [show (0 : Int32).toNatClampNeg = 0 by decide]
                  refine x_iconst (v := 1) C d_Mo_wrong_121 (by decide) ?_
                  refine x_icmp_ne (tgt := 148) C d_Mo_wrong_122 rfl (fun q122 => ?_) (fun q122 => ?_)
                  · skip
                    refine x_iconst (v := 0) C d_Mo_wrong_148 (by decide) ?_
                    refine x_iret C d_Mo_wrong_149 ?_
                    refine ⟨_, fm, mu, kp, Or.inr ⟨dd, fr, T, htp, by rw [e1]; exact g_newFirst, g_newSecond, g_newFalls, g_newFrom, g_newTo, hFT, congrArg (fun z => some (Value.int z)) ?_⟩⟩
                    unfold faultS
                    rw [ev, e1]
                    rw [if_neg q15, colOf_nI ht1]
                    have hth : ¬ c t1 ≤ 0 := by simpa using q36
                    rw [if_neg hth]
                    have hse : ¬ (¬ dd.1.2.2.2.1 = -1 ∧ colOf c dd.1.2.2.2.1 ≤ 0) := by
                      first | exact (fun z => z.1 q44) | (rw [e2, colOf_nI ht]; exact (fun z => absurd z.2 (by simpa using q55)))
                    rw [if_neg hse]
                    rw [if_neg (by rw [q109]; decide)]
                    first | (rw [if_neg (fun z => q122 z.1)]; done) | (rw [if_neg (fun z => z.2 q140)]; done) | (rw [if_pos ⟨q122, q140⟩]; done)
                  · skip
                    refine x_aload_n C d_Mo_wrong_125 rfl rfl ?_
                    refine x_get C k_Mo f_Mo_49 d_Mo_wrong_126 fm g_pending ?_
                    refine x_iconst (v := 2) C d_Mo_wrong_129 (by decide) ?_
                    refine x_isub C d_Mo_wrong_130 ?_
                    refine x_aload_n C d_Mo_wrong_131 rfl rfl ?_
                    refine x_get C k_Mo f_Mo_7 d_Mo_wrong_132 fm g_columns ?_
                    refine x_aload_n C d_Mo_wrong_135 rfl rfl ?_
                    refine x_get C k_Mo f_Mo_82 d_Mo_wrong_136 fm g_newFirst ?_
                    refine x_iald C d_Mo_wrong_139 fco (vp_in_nI ht1 (by decide)) ?_
                    rw [nI_clamp (by omega), show nI n - 2 = nI (n - 2) from pk_sub (b := 2) hn2]
                    refine x_icmp_eq (tgt := 148) C d_Mo_wrong_140 rfl (fun q140 => ?_) (fun q140 => ?_)
                    · skip
                      refine x_iconst (v := 0) C d_Mo_wrong_148 (by decide) ?_
                      refine x_iret C d_Mo_wrong_149 ?_
                      refine ⟨_, fm, mu, kp, Or.inr ⟨dd, fr, T, htp, by rw [e1]; exact g_newFirst, g_newSecond, g_newFalls, g_newFrom, g_newTo, hFT, congrArg (fun z => some (Value.int z)) ?_⟩⟩
                      unfold faultS
                      rw [ev, e1]
                      rw [if_neg q15, colOf_nI ht1]
                      have hth : ¬ c t1 ≤ 0 := by simpa using q36
                      rw [if_neg hth]
                      have hse : ¬ (¬ dd.1.2.2.2.1 = -1 ∧ colOf c dd.1.2.2.2.1 ≤ 0) := by
                        first | exact (fun z => z.1 q44) | (rw [e2, colOf_nI ht]; exact (fun z => absurd z.2 (by simpa using q55)))
                      rw [if_neg hse]
                      rw [if_neg (by rw [q109]; decide)]
                      first | (rw [if_neg (fun z => q122 z.1)]; done) | (rw [if_neg (fun z => z.2 q140)]; done) | (rw [if_pos ⟨q122, q140⟩]; done)
                    · skip
                      refine x_bipush (v := -5) C d_Mo_wrong_143 (by decide) ?_
                      refine x_goto (tgt := 149) C d_Mo_wrong_145 rfl ?_
                      refine x_iret C d_Mo_wrong_149 ?_
                      refine ⟨_, fm, mu, kp, Or.inr ⟨dd, fr, T, htp, by rw [e1]; exact g_newFirst, g_newSecond, g_newFalls, g_newFrom, g_newTo, hFT, congrArg (fun z => some (Value.int z)) ?_⟩⟩
                      unfold faultS
                      rw [ev, e1]
                      rw [if_neg q15, colOf_nI ht1]
                      have hth : ¬ c t1 ≤ 0 := by simpa using q36
                      rw [if_neg hth]
                      have hse : ¬ (¬ dd.1.2.2.2.1 = -1 ∧ colOf c dd.1.2.2.2.1 ≤ 0) := by
                        first | exact (fun z => z.1 q44) | (rw [e2, colOf_nI ht]; exact (fun z => absurd z.2 (by simpa using q55)))
                      rw [if_neg hse]
                      rw [if_neg (by rw [q109]; decide)]
                      first | (rw [if_neg (fun z => q122 z.1)]; done) | (rw [if_neg (fun z => z.2 q140)]; done) | (rw [if_pos ⟨q122, q140⟩]; done)
                · skip
                  replace q109 := bI_f q109
                  refine x_bipush (v := -3) C d_Mo_wrong_112 (by decide) ?_
                  refine x_iret C d_Mo_wrong_114 ?_
                  refine ⟨_, fm, mu, kp, Or.inr ⟨dd, fr, T, htp, by rw [e1]; exact g_newFirst, g_newSecond, g_newFalls, g_newFrom, g_newTo, hFT, congrArg (fun z => some (Value.int z)) ?_⟩⟩
                  unfold faultS
                  rw [ev, e1]
                  rw [if_neg q15, colOf_nI ht1]
                  have hth : ¬ c t1 ≤ 0 := by simpa using q36
                  rw [if_neg hth]
                  have hse : ¬ (¬ dd.1.2.2.2.1 = -1 ∧ colOf c dd.1.2.2.2.1 ≤ 0) := by
                    first | exact (fun z => z.1 q44) | (rw [e2, colOf_nI ht]; exact (fun z => absurd z.2 (by simpa using q55)))
                  rw [if_neg hse]
                  rw [if_pos q109]
              · skip
                exact absurd q62 (by decide)
            · skip
              obtain ⟨t2, ht, e2⟩ := ht2.resolve_left q44
              refine x_aload_n C d_Mo_wrong_47 rfl rfl ?_
              refine x_aload_n C d_Mo_wrong_48 rfl rfl ?_
              refine x_get C k_Mo f_Mo_85 d_Mo_wrong_49 fm g_newSecond ?_
              rw [e2]
              refine x_callV C l_Mo_101 v_Mo_isThere d_Mo_wrong_52 (m_Mo_isThere (t := t2) fm hlen g_columns fco ht) fm rfl (by rfl) (by rfl) (by decide) (by decide) (Nat.le_of_ble_eq_true rfl) ?_
              rintro v9 h9 ⟨rfl, rfl⟩
              refine x_if_ne (tgt := 61) C d_Mo_wrong_55 rfl (fun q55 => ?_) (fun q55 => ?_)
              · skip
                replace q55 := bI_t q55
                refine x_iload_n C d_Mo_wrong_61 rfl rfl ?_
                refine x_if_eq (tgt := 105) C d_Mo_wrong_62 rfl (fun q62 => ?_) (fun q62 => ?_)
                · skip
                  refine x_aload_n C d_Mo_wrong_105 rfl rfl ?_
                  refine x_callV C l_Mo_106 v_Mo_haveColumns d_Mo_wrong_106 (m_Mo_haveColumns (t1 := t1) fm hlen g_kinds g_numbers g_pending g_columns g_newFirst g_newSecond fki fnu fco hn60 ht1 ht2) fm rfl (by rfl) (by rfl) (by decide) (by decide) (Nat.le_of_ble_eq_true rfl) ?_
                  rintro v9 h9 ⟨rfl, rfl⟩
                  refine x_if_ne (tgt := 115) C d_Mo_wrong_109 rfl (fun q109 => ?_) (fun q109 => ?_)
                  · skip
                    replace q109 := bI_t q109
                    refine x_aload_n C d_Mo_wrong_115 rfl rfl ?_
                    refine x_get C k_Mo f_Mo_22 d_Mo_wrong_116 fm g_numbers ?_
                    refine x_iconst (v := 0) C d_Mo_wrong_119 (by decide) ?_
                    refine x_iald C d_Mo_wrong_120 fnu (vp_in_nI (n := 0) (by decide) (by decide)) ?_
                    rw [show (0 : Int32).toNatClampNeg = 0 by decide]
                    refine x_iconst (v := 1) C d_Mo_wrong_121 (by decide) ?_
                    refine x_icmp_ne (tgt := 148) C d_Mo_wrong_122 rfl (fun q122 => ?_) (fun q122 => ?_)
                    · skip
                      refine x_iconst (v := 0) C d_Mo_wrong_148 (by decide) ?_
                      refine x_iret C d_Mo_wrong_149 ?_
                      refine ⟨_, fm, mu, kp, Or.inr ⟨dd, fr, T, htp, by rw [e1]; exact g_newFirst, g_newSecond, g_newFalls, g_newFrom, g_newTo, hFT, congrArg (fun z => some (Value.int z)) ?_⟩⟩
                      unfold faultS
                      rw [ev, e1]
                      rw [if_neg q15, colOf_nI ht1]
                      have hth : ¬ c t1 ≤ 0 := by simpa using q36
                      rw [if_neg hth]
                      have hse : ¬ (¬ dd.1.2.2.2.1 = -1 ∧ colOf c dd.1.2.2.2.1 ≤ 0) := by
                        first | exact (fun z => z.1 q44) | (rw [e2, colOf_nI ht]; exact (fun z => absurd z.2 (by simpa using q55)))
                      rw [if_neg hse]
                      rw [if_neg (by rw [q109]; decide)]
                      first | (rw [if_neg (fun z => q122 z.1)]; done) | (rw [if_neg (fun z => z.2 q140)]; done) | (rw [if_pos ⟨q122, q140⟩]; done)
                    · skip
                      refine x_aload_n C d_Mo_wrong_125 rfl rfl ?_
                      refine x_get C k_Mo f_Mo_49 d_Mo_wrong_126 fm g_pending ?_
                      refine x_iconst (v := 2) C d_Mo_wrong_129 (by decide) ?_
                      refine x_isub C d_Mo_wrong_130 ?_
                      refine x_aload_n C d_Mo_wrong_131 rfl rfl ?_
                      refine x_get C k_Mo f_Mo_7 d_Mo_wrong_132 fm g_columns ?_
                      refine x_aload_n C d_Mo_wrong_135 rfl rfl ?_
                      refine x_get C k_Mo f_Mo_82 d_Mo_wrong_136 fm g_newFirst ?_
                      refine x_iald C d_Mo_wrong_139 fco (vp_in_nI ht1 (by decide)) ?_
                      rw [nI_clamp (by omega), show nI n - 2 = nI (n - 2) from pk_sub (b := 2) hn2]
                      refine x_icmp_eq (tgt := 148) C d_Mo_wrong_140 rfl (fun q140 => ?_) (fun q140 => ?_)
                      · skip
                        refine x_iconst (v := 0) C d_Mo_wrong_148 (by decide) ?_
                        refine x_iret C d_Mo_wrong_149 ?_
                        refine ⟨_, fm, mu, kp, Or.inr ⟨dd, fr, T, htp, by rw [e1]; exact g_newFirst, g_newSecond, g_newFalls, g_newFrom, g_newTo, hFT, congrArg (fun z => some (Value.int z)) ?_⟩⟩
                        unfold faultS
                        rw [ev, e1]
                        rw [if_neg q15, colOf_nI ht1]
                        have hth : ¬ c t1 ≤ 0 := by simpa using q36
                        rw [if_neg hth]
                        have hse : ¬ (¬ dd.1.2.2.2.1 = -1 ∧ colOf c dd.1.2.2.2.1 ≤ 0) := by
                          first | exact (fun z => z.1 q44) | (rw [e2, colOf_nI ht]; exact (fun z => absurd z.2 (by simpa using q55)))
                        rw [if_neg hse]
                        rw [if_neg (by rw [q109]; decide)]
                        first | (rw [if_neg (fun z => q122 z.1)]; done) | (rw [if_neg (fun z => z.2 q140)]; done) | (rw [if_pos ⟨q122, q140⟩]; done)
                      · skip
                        refine x_bipush (v := -5) C d_Mo_wrong_143 (by decide) ?_
                        refine x_goto (tgt := 149) C d_Mo_wrong_145 rfl ?_
                        refine x_iret C d_Mo_wrong_149 ?_
                        refine ⟨_, fm, mu, kp, Or.inr ⟨dd, fr, T, htp, by rw [e1]; exact g_newFirst, g_newSecond, g_newFalls, g_newFrom, g_newTo, hFT, congrArg (fun z => some (Value.int z)) ?_⟩⟩
                        unfold faultS
                        rw [ev, e1]
                        rw [if_neg q15, colOf_nI ht1]
                        have hth : ¬ c t1 ≤ 0 := by simpa using q36
                        rw [if_neg hth]
                        have hse : ¬ (¬ dd.1.2.2.2.1 = -1 ∧ colOf c dd.1.2.2.2.1 ≤ 0) := by
                          first | exact (fun z => z.1 q44) | (rw [e2, colOf_nI ht]; exact (fun z => absurd z.2 (by simpa using q55)))
                        rw [if_neg hse]
                        rw [if_neg (by rw [q109]; decide)]
                        first | (rw [if_neg (fun z => q122 z.1)]; done) | (rw [if_neg (fun z => z.2 q140)]; done) | (rw [if_pos ⟨q122, q140⟩]; done)
                  · skip
                    replace q109 := bI_f q109
                    refine x_bipush (v := -3) C d_Mo_wrong_112 (by decide) ?_
                    refine x_iret C d_Mo_wrong_114 ?_
                    refine ⟨_, fm, mu, kp, Or.inr ⟨dd, fr, T, htp, by rw [e1]; exact g_newFirst, g_newSecond, g_newFalls, g_newFrom, g_newTo, hFT, congrArg (fun z => some (Value.int z)) ?_⟩⟩
                    unfold faultS
                    rw [ev, e1]
                    rw [if_neg q15, colOf_nI ht1]
                    have hth : ¬ c t1 ≤ 0 := by simpa using q36
                    rw [if_neg hth]
                    have hse : ¬ (¬ dd.1.2.2.2.1 = -1 ∧ colOf c dd.1.2.2.2.1 ≤ 0) := by
                      first | exact (fun z => z.1 q44) | (rw [e2, colOf_nI ht]; exact (fun z => absurd z.2 (by simpa using q55)))
                    rw [if_neg hse]
                    rw [if_pos q109]
                · skip
                  exact absurd q62 (by decide)
              · skip
                replace q55 := bI_f q55
                refine x_bipush (v := -2) C d_Mo_wrong_58 (by decide) ?_
                refine x_iret C d_Mo_wrong_60 ?_
                refine ⟨_, fm, mu, kp, Or.inr ⟨dd, fr, T, htp, by rw [e1]; exact g_newFirst, g_newSecond, g_newFalls, g_newFrom, g_newTo, hFT, congrArg (fun z => some (Value.int z)) ?_⟩⟩
                unfold faultS
                rw [ev, e1]
                rw [if_neg q15, colOf_nI ht1]
                first | (rw [if_pos (by simpa using q36)]; done) | (rw [if_neg (by simpa using q36), if_pos ⟨q44, by rw [e2, colOf_nI ht]; simpa using q55⟩]; done)
      · skip
        refine x_iconst (v := 1) C d_Mo_wrong_18 (by decide) ?_
        refine x_goto (tgt := 23) C d_Mo_wrong_19 rfl ?_
        refine x_istore_n (lv' := [(1, _), (0, _)]) C d_Mo_wrong_23 rfl (by decide) (by rfl) ?_
        refine x_iload_n C d_Mo_wrong_24 rfl rfl ?_
        refine x_if_ne (tgt := 61) C d_Mo_wrong_25 rfl (fun q25 => ?_) (fun q25 => ?_)
        · skip
          refine x_iload_n C d_Mo_wrong_61 rfl rfl ?_
          refine x_if_eq (tgt := 105) C d_Mo_wrong_62 rfl (fun q62 => ?_) (fun q62 => ?_)
          · skip
            exact absurd q62 (by decide)
          · skip
            refine x_aload_n C d_Mo_wrong_65 rfl rfl ?_
            refine x_aload_n C d_Mo_wrong_66 rfl rfl ?_
            refine x_get C k_Mo f_Mo_82 d_Mo_wrong_67 fm g_newFirst ?_
            refine x_callV C l_Mo_101 v_Mo_isThere d_Mo_wrong_70 (m_Mo_isThere (t := t1) fm hlen g_columns fco ht1) fm rfl (by rfl) (by rfl) (by decide) (by decide) (Nat.le_of_ble_eq_true rfl) ?_
            rintro v9 h9 ⟨rfl, rfl⟩
            refine x_if_eq (tgt := 81) C d_Mo_wrong_73 rfl (fun q73 => ?_) (fun q73 => ?_)
            · skip
              replace q73 := bI_f q73
              refine x_aload_n C d_Mo_wrong_81 rfl rfl ?_
              refine x_get C k_Mo f_Mo_22 d_Mo_wrong_82 fm g_numbers ?_
              refine x_iconst (v := 2) C d_Mo_wrong_85 (by decide) ?_
              refine x_iald C d_Mo_wrong_86 fnu (vp_in_nI (n := 2) (by decide) (by decide)) ?_
              rw [show (2 : Int32).toNatClampNeg = 2 by decide]
              refine x_i2l C d_Mo_wrong_87 ?_
              refine x_lconst (v := 1) C d_Mo_wrong_88 (by decide) ?_
              refine x_ldc2 C q_Mo_104 d_Mo_wrong_89 ?_
              refine x_callS C l_Mo_37 v_Mo_in d_Mo_wrong_92 (m_Mo_in (ns 2).toInt64 1 6) (by rfl) (by rfl) (by decide) (by decide) (Nat.le_of_ble_eq_true rfl) ?_
              rintro v9 h9 ⟨rfl, rfl⟩
              rw [lc_in (a := 1) (b := 6) (by decide) (by decide)]
              refine x_if_eq (tgt := 102) C d_Mo_wrong_95 rfl (fun q95 => ?_) (fun q95 => ?_)
              · skip
                replace q95 := bI_f q95
                refine x_bipush (v := -5) C d_Mo_wrong_102 (by decide) ?_
                refine x_iret C d_Mo_wrong_104 ?_
                refine ⟨_, fm, mu, kp, Or.inr ⟨dd, fr, T, htp, by rw [e1]; exact g_newFirst, g_newSecond, g_newFalls, g_newFrom, g_newTo, hFT, congrArg (fun z => some (Value.int z)) ?_⟩⟩
                unfold faultS
                rw [ev, e1]
                rw [if_pos q15]
                unfold faultC
                rw [colOf_nI ht1]
                first | (rw [if_pos (by simpa using q73)]; done) | (rw [if_neg (by simpa using q73)]; simp only [Bool.and_eq_true, Bool.not_eq_true', decide_eq_false_iff_not] at q95; rw [if_neg q95.1, if_neg q95.2]; done) | (rw [if_neg (by simpa using q73)]; simp only [Bool.and_eq_false_iff, Bool.not_eq_false', decide_eq_true_eq] at q95; rcases q95 with z | z; exact (if_pos z).symm; by_cases y : ns 2 < 1; exact (if_pos y).symm; rw [if_neg y, if_pos z])
              · skip
                replace q95 := bI_t q95
                refine x_iconst (v := 0) C d_Mo_wrong_98 (by decide) ?_
                refine x_goto (tgt := 104) C d_Mo_wrong_99 rfl ?_
                refine x_iret C d_Mo_wrong_104 ?_
                refine ⟨_, fm, mu, kp, Or.inr ⟨dd, fr, T, htp, by rw [e1]; exact g_newFirst, g_newSecond, g_newFalls, g_newFrom, g_newTo, hFT, congrArg (fun z => some (Value.int z)) ?_⟩⟩
                unfold faultS
                rw [ev, e1]
                rw [if_pos q15]
                unfold faultC
                rw [colOf_nI ht1]
                first | (rw [if_pos (by simpa using q73)]; done) | (rw [if_neg (by simpa using q73)]; simp only [Bool.and_eq_true, Bool.not_eq_true', decide_eq_false_iff_not] at q95; rw [if_neg q95.1, if_neg q95.2]; done) | (rw [if_neg (by simpa using q73)]; simp only [Bool.and_eq_false_iff, Bool.not_eq_false', decide_eq_true_eq] at q95; rcases q95 with z | z; exact (if_pos z).symm; by_cases y : ns 2 < 1; exact (if_pos y).symm; rw [if_neg y, if_pos z])
            · skip
              replace q73 := bI_t q73
              refine x_bipush (v := -4) C d_Mo_wrong_76 (by decide) ?_
              refine x_goto (tgt := 104) C d_Mo_wrong_78 rfl ?_
              refine x_iret C d_Mo_wrong_104 ?_
              refine ⟨_, fm, mu, kp, Or.inr ⟨dd, fr, T, htp, by rw [e1]; exact g_newFirst, g_newSecond, g_newFalls, g_newFrom, g_newTo, hFT, congrArg (fun z => some (Value.int z)) ?_⟩⟩
              unfold faultS
              rw [ev, e1]
              rw [if_pos q15]
              unfold faultC
              rw [colOf_nI ht1]
              first | (rw [if_pos (by simpa using q73)]; done) | (rw [if_neg (by simpa using q73)]; simp only [Bool.and_eq_true, Bool.not_eq_true', decide_eq_false_iff_not] at q95; rw [if_neg q95.1, if_neg q95.2]; done) | (rw [if_neg (by simpa using q73)]; simp only [Bool.and_eq_false_iff, Bool.not_eq_false', decide_eq_true_eq] at q95; rcases q95 with z | z; exact (if_pos z).symm; by_cases y : ns 2 < 1; exact (if_pos y).symm; rw [if_neg y, if_pos z])
        · skip
          exact absurd q25 (by decide)
    · skip
      exact absurd q4 (by decide)
set_option maxRecDepth 20000 in
set_option maxHeartbeats 1000000 in
theorem m_Mo_prepare {V : xV} {h : xH} {mki mnu mco mhk mhn n : Nat} {ks ns c hk hn : Nat → Int32} {m : Nat} {fs : List Value} (fm : h m = some (.inr (8, fs))) (hlen : fs.length = 29) (g_kinds : fs[5]? = some (.ref mki)) (g_numbers : fs[6]? = some (.ref mnu)) (g_pending : fs[7]? = some (.int (nI n))) (g_columns : fs[1]? = some (.ref mco)) (g_hadKinds : fs[8]? = some (.ref mhk)) (g_hadNumbers : fs[9]? = some (.ref mhn)) (fki : h mki = some (xI V 60 ks)) (fnu : h mnu = some (xI V 60 ns)) (fco : h mco = some (xI V 10 c)) (fhk : h mhk = some (xI V 60 hk)) (fhn : h mhn = some (xI V 60 hn)) (hn60 : n ≤ 60) (hv : tokS ks ns n) (w1 : mhk ≠ mki) (w2 : mhk ≠ mnu) (w3 : mhn ≠ mki) (w4 : mhn ≠ mnu) (w5 : mhk ≠ mhn) : xM V y_Mo_prepare b_Mo_prepare 3 (some .int) 7 [.ref m] h 0 0 (fun v h' => ∃ fs' hk' hn' an, v = some (.int an) ∧ h' m = some (.inr (8, fs')) ∧ h' mhk = some (xI V 60 hk') ∧ h' mhn = some (xI V 60 hn') ∧ xKeep [m, mhk, mhn] h h' ∧ fs'[0]? = some (.int 0) ∧ fs'[7]? = some (.int 0) ∧ ((tParse ks ns n = none ∧ an = -1 ∧ mUp [0, 7, 23, 24, 25, 26, 27, 28] fs fs' ∧ hk' = hk ∧ hn' = hn) ∨ ∃ dd fr T, tParse ks ns n = some dd ∧ an = faultS dd.1.1 dd.1.2.2.1 dd.1.2.2.2.1 (nI (n - 2)) (ns 2) c (decide (∀ jj, jj < n → mCol ks ns c dd.1.2.2.1 dd.1.2.2.2.1 jj = true)) ∧ mFT fr T dd.2.2.2.2.2 dd.2.2.2.2.1 ∧ ((¬ an = 0 ∧ mUp [0, 7, 23, 24, 25, 26, 27, 28] fs fs' ∧ hk' = hk ∧ hn' = hn) ∨ (an = 0 ∧ mUp [0, 7, 10, 11, 12, 13, 14, 15, 16, 17, 18, 19, 20, 21, 23, 24, 25, 26, 27, 28] fs fs' ∧ (∀ i, i < n → hk' i = ks i ∧ hn' i = ns i) ∧ fs'[12]? = some (.int dd.1.2.2.1) ∧ fs'[13]? = some (.int dd.1.2.2.2.1) ∧ fs'[14]? = some (.int (nI fr)) ∧ fs'[15]? = some (.int (nI T)) ∧ fs'[16]? = some (.int (bI dd.1.2.2.2.2)) ∧ fs'[11]? = some (.int 1) ∧ fs'[17]? = some (.int 0) ∧ fs'[18]? = some (.int 0) ∧ fs'[19]? = some (.int (-1)) ∧ fs'[20]? = some (.int (-1)) ∧ fs'[21]? = some (.int 0))))) := by
  refine xM_of false (by decide) (fun h => nomatch h) (Nat.le_of_ble_eq_true rfl) (fun K C => ?_)
  show K 0 0 h 0 [(0, .ref m)] []
  have kp : xKeep [m, mhk, mhn] h h := xKeep.rf
  have mu : mUp [0, 7, 23, 24, 25, 26, 27, 28] fs fs := mUp.rf
  have loop : ∀ mq : Nat, ∀ (i : Nat) (h1 : xH) (fs1 : List Value) (hk1 hn1 : Nat → Int32) (dd : tD) (fr T : Nat), n - i < mq → i ≤ n → h1 m = some (.inr (8, fs1)) → mUp [0, 7, 10, 11, 12, 13, 14, 15, 16, 17, 18, 19, 20, 21, 23, 24, 25, 26, 27, 28] fs fs1 → xKeep [m, mhk, mhn] h h1 → h1 mki = some (xI V 60 ks) → h1 mnu = some (xI V 60 ns) → h1 mco = some (xI V 10 c) → h1 mhk = some (xI V 60 hk1) → h1 mhn = some (xI V 60 hn1) → (∀ j, j < i → hk1 j = ks j ∧ hn1 j = ns j) → fs1[10]? = some (.int (nI n)) → fs1[0]? = some (.int 0) → fs1[24]? = some (.int dd.1.2.2.1) → fs1[25]? = some (.int dd.1.2.2.2.1) → fs1[28]? = some (.int (bI dd.1.2.2.2.2)) → fs1[26]? = some (.int (nI fr)) → fs1[27]? = some (.int (nI T)) → mFT fr T dd.2.2.2.2.2 dd.2.2.2.2.1 → tParse ks ns n = some dd → faultS dd.1.1 dd.1.2.2.1 dd.1.2.2.2.1 (nI (n - 2)) (ns 2) c (decide (∀ jj, jj < n → mCol ks ns c dd.1.2.2.1 dd.1.2.2.2.1 jj = true)) = 0 → K 0 0 h1 24 [(2, .int (nI i)), (1, .int 0), (0, .ref m)] [] := by
    intro mq
    induction mq with
    | zero => intro i h1 fs1 hk1 hn1 dd fr T hm hi fm mu kp fki fnu fco fhk fhn hcp g_had g_thrown g_newFirst g_newSecond g_newFalls g_newFrom g_newTo hFT htp hf0; omega
    | succ mq ih =>
      intro i h1 fs1 hk1 hn1 dd fr T hm hi fm mu kp fki fnu fco fhk fhn hcp g_had g_thrown g_newFirst g_newSecond g_newFalls g_newFrom g_newTo hFT htp hf0
      have hlen := mu.1.trans hlen
      have g_kinds := mu.get g_kinds (by decide)
      have g_numbers := mu.get g_numbers (by decide)
      have g_hadKinds := mu.get g_hadKinds (by decide)
      have g_hadNumbers := mu.get g_hadNumbers (by decide)
      refine x_iload_n C d_Mo_prepare_24 rfl rfl ?_
      refine x_aload_n C d_Mo_prepare_25 rfl rfl ?_
      refine x_get C k_Mo f_Mo_112 d_Mo_prepare_26 fm g_had ?_
      refine x_icmp_ge (tgt := 62) C d_Mo_prepare_29 rfl (fun q29 => ?_) (fun q29 => ?_)
      · skip
        have hi2 : i = n := by have := nge_of q29 (by omega); omega
        refine x_aload_n C d_Mo_prepare_62 rfl rfl ?_
        refine x_aload_n C d_Mo_prepare_63 rfl rfl ?_
        refine x_get C k_Mo f_Mo_82 d_Mo_prepare_64 fm g_newFirst ?_
        refine x_put C k_Mo f_Mo_115 d_Mo_prepare_67 fm (by rfl) (by rfl) (by rfl) (by omega) rfl (fun h1 u1 => ?_)
        have fki := xUp_ne u1 fki (by first | assumption | exact Ne.symm (by assumption) | exact x_ne fki fm (by simp))
        have fnu := xUp_ne u1 fnu (by first | assumption | exact Ne.symm (by assumption) | exact x_ne fnu fm (by simp))
        have fco := xUp_ne u1 fco (by first | assumption | exact Ne.symm (by assumption) | exact x_ne fco fm (by simp))
        have fhk := xUp_ne u1 fhk (by first | assumption | exact Ne.symm (by assumption) | exact x_ne fhk fm (by simp))
        have fhn := xUp_ne u1 fhn (by first | assumption | exact Ne.symm (by assumption) | exact x_ne fhn fm (by simp))
        have fm := xUp_at u1
        have kp := kp.up u1 (by simp)
        have g_kinds := gs_ne fm g_kinds (by decide)
        have g_numbers := gs_ne fm g_numbers (by decide)
        have g_hadKinds := gs_ne fm g_hadKinds (by decide)
        have g_hadNumbers := gs_ne fm g_hadNumbers (by decide)
        have g_had := gs_ne fm g_had (by decide)
        have g_thrown := gs_ne fm g_thrown (by decide)
        have g_newFirst := gs_ne fm g_newFirst (by decide)
        have g_newSecond := gs_ne fm g_newSecond (by decide)
        have g_newFalls := gs_ne fm g_newFalls (by decide)
        have g_newFrom := gs_ne fm g_newFrom (by decide)
        have g_newTo := gs_ne fm g_newTo (by decide)
        have g_first := gs_eq fm hlen (by decide)
        have mu := mu.setF fm (by decide)
        have hlen := gs_len fm hlen
        refine x_aload_n C d_Mo_prepare_70 rfl rfl ?_
        refine x_aload_n C d_Mo_prepare_71 rfl rfl ?_
        refine x_get C k_Mo f_Mo_85 d_Mo_prepare_72 fm g_newSecond ?_
        refine x_put C k_Mo f_Mo_118 d_Mo_prepare_75 fm (by rfl) (by rfl) (by rfl) (by omega) rfl (fun h2 u2 => ?_)
        have fki := xUp_ne u2 fki (by first | assumption | exact Ne.symm (by assumption) | exact x_ne fki fm (by simp))
        have fnu := xUp_ne u2 fnu (by first | assumption | exact Ne.symm (by assumption) | exact x_ne fnu fm (by simp))
        have fco := xUp_ne u2 fco (by first | assumption | exact Ne.symm (by assumption) | exact x_ne fco fm (by simp))
        have fhk := xUp_ne u2 fhk (by first | assumption | exact Ne.symm (by assumption) | exact x_ne fhk fm (by simp))
        have fhn := xUp_ne u2 fhn (by first | assumption | exact Ne.symm (by assumption) | exact x_ne fhn fm (by simp))
        have fm := xUp_at u2
        have kp := kp.up u2 (by simp)
        have g_kinds := gs_ne fm g_kinds (by decide)
        have g_numbers := gs_ne fm g_numbers (by decide)
        have g_hadKinds := gs_ne fm g_hadKinds (by decide)
        have g_hadNumbers := gs_ne fm g_hadNumbers (by decide)
        have g_had := gs_ne fm g_had (by decide)
        have g_thrown := gs_ne fm g_thrown (by decide)
        have g_newFirst := gs_ne fm g_newFirst (by decide)
        have g_newSecond := gs_ne fm g_newSecond (by decide)
        have g_newFalls := gs_ne fm g_newFalls (by decide)
        have g_newFrom := gs_ne fm g_newFrom (by decide)
        have g_newTo := gs_ne fm g_newTo (by decide)
        have g_first := gs_ne fm g_first (by decide)
        have g_second := gs_eq fm hlen (by decide)
        have mu := mu.setF fm (by decide)
        have hlen := gs_len fm hlen
        refine x_aload_n C d_Mo_prepare_78 rfl rfl ?_
        refine x_aload_n C d_Mo_prepare_79 rfl rfl ?_
        refine x_get C k_Mo f_Mo_62 d_Mo_prepare_80 fm g_newFrom ?_
        refine x_put C k_Mo f_Mo_121 d_Mo_prepare_83 fm (by rfl) (by rfl) (by rfl) (by omega) rfl (fun h3 u3 => ?_)
        have fki := xUp_ne u3 fki (by first | assumption | exact Ne.symm (by assumption) | exact x_ne fki fm (by simp))
        have fnu := xUp_ne u3 fnu (by first | assumption | exact Ne.symm (by assumption) | exact x_ne fnu fm (by simp))
        have fco := xUp_ne u3 fco (by first | assumption | exact Ne.symm (by assumption) | exact x_ne fco fm (by simp))
        have fhk := xUp_ne u3 fhk (by first | assumption | exact Ne.symm (by assumption) | exact x_ne fhk fm (by simp))
        have fhn := xUp_ne u3 fhn (by first | assumption | exact Ne.symm (by assumption) | exact x_ne fhn fm (by simp))
        have fm := xUp_at u3
        have kp := kp.up u3 (by simp)
        have g_kinds := gs_ne fm g_kinds (by decide)
        have g_numbers := gs_ne fm g_numbers (by decide)
        have g_hadKinds := gs_ne fm g_hadKinds (by decide)
        have g_hadNumbers := gs_ne fm g_hadNumbers (by decide)
        have g_had := gs_ne fm g_had (by decide)
        have g_thrown := gs_ne fm g_thrown (by decide)
        have g_newFirst := gs_ne fm g_newFirst (by decide)
        have g_newSecond := gs_ne fm g_newSecond (by decide)
        have g_newFalls := gs_ne fm g_newFalls (by decide)
        have g_newFrom := gs_ne fm g_newFrom (by decide)
        have g_newTo := gs_ne fm g_newTo (by decide)
        have g_first := gs_ne fm g_first (by decide)
        have g_second := gs_ne fm g_second (by decide)
        have g_from := gs_eq fm hlen (by decide)
        have mu := mu.setF fm (by decide)
        have hlen := gs_len fm hlen
        refine x_aload_n C d_Mo_prepare_86 rfl rfl ?_
        refine x_aload_n C d_Mo_prepare_87 rfl rfl ?_
        refine x_get C k_Mo f_Mo_65 d_Mo_prepare_88 fm g_newTo ?_
        refine x_put C k_Mo f_Mo_124 d_Mo_prepare_91 fm (by rfl) (by rfl) (by rfl) (by omega) rfl (fun h4 u4 => ?_)
        have fki := xUp_ne u4 fki (by first | assumption | exact Ne.symm (by assumption) | exact x_ne fki fm (by simp))
        have fnu := xUp_ne u4 fnu (by first | assumption | exact Ne.symm (by assumption) | exact x_ne fnu fm (by simp))
        have fco := xUp_ne u4 fco (by first | assumption | exact Ne.symm (by assumption) | exact x_ne fco fm (by simp))
        have fhk := xUp_ne u4 fhk (by first | assumption | exact Ne.symm (by assumption) | exact x_ne fhk fm (by simp))
        have fhn := xUp_ne u4 fhn (by first | assumption | exact Ne.symm (by assumption) | exact x_ne fhn fm (by simp))
        have fm := xUp_at u4
        have kp := kp.up u4 (by simp)
        have g_kinds := gs_ne fm g_kinds (by decide)
        have g_numbers := gs_ne fm g_numbers (by decide)
        have g_hadKinds := gs_ne fm g_hadKinds (by decide)
        have g_hadNumbers := gs_ne fm g_hadNumbers (by decide)
        have g_had := gs_ne fm g_had (by decide)
        have g_thrown := gs_ne fm g_thrown (by decide)
        have g_newFirst := gs_ne fm g_newFirst (by decide)
        have g_newSecond := gs_ne fm g_newSecond (by decide)
        have g_newFalls := gs_ne fm g_newFalls (by decide)
        have g_newFrom := gs_ne fm g_newFrom (by decide)
        have g_newTo := gs_ne fm g_newTo (by decide)
        have g_first := gs_ne fm g_first (by decide)
        have g_second := gs_ne fm g_second (by decide)
        have g_from := gs_ne fm g_from (by decide)
        have g_to := gs_eq fm hlen (by decide)
        have mu := mu.setF fm (by decide)
        have hlen := gs_len fm hlen
        refine x_aload_n C d_Mo_prepare_94 rfl rfl ?_
        refine x_aload_n C d_Mo_prepare_95 rfl rfl ?_
        refine x_get C k_Mo f_Mo_91 d_Mo_prepare_96 fm g_newFalls ?_
        refine x_put C k_Mo f_Mo_127 d_Mo_prepare_99 fm (by rfl) (by cases dd.1.2.2.2.2 <;> rfl) (by cases dd.1.2.2.2.2 <;> rfl) (by omega) rfl (fun h5 u5 => ?_)
        have fki := xUp_ne u5 fki (by first | assumption | exact Ne.symm (by assumption) | exact x_ne fki fm (by simp))
        have fnu := xUp_ne u5 fnu (by first | assumption | exact Ne.symm (by assumption) | exact x_ne fnu fm (by simp))
        have fco := xUp_ne u5 fco (by first | assumption | exact Ne.symm (by assumption) | exact x_ne fco fm (by simp))
        have fhk := xUp_ne u5 fhk (by first | assumption | exact Ne.symm (by assumption) | exact x_ne fhk fm (by simp))
        have fhn := xUp_ne u5 fhn (by first | assumption | exact Ne.symm (by assumption) | exact x_ne fhn fm (by simp))
        have fm := xUp_at u5
        have kp := kp.up u5 (by simp)
        have g_kinds := gs_ne fm g_kinds (by decide)
        have g_numbers := gs_ne fm g_numbers (by decide)
        have g_hadKinds := gs_ne fm g_hadKinds (by decide)
        have g_hadNumbers := gs_ne fm g_hadNumbers (by decide)
        have g_had := gs_ne fm g_had (by decide)
        have g_thrown := gs_ne fm g_thrown (by decide)
        have g_newFirst := gs_ne fm g_newFirst (by decide)
        have g_newSecond := gs_ne fm g_newSecond (by decide)
        have g_newFalls := gs_ne fm g_newFalls (by decide)
        have g_newFrom := gs_ne fm g_newFrom (by decide)
        have g_newTo := gs_ne fm g_newTo (by decide)
        have g_first := gs_ne fm g_first (by decide)
        have g_second := gs_ne fm g_second (by decide)
        have g_from := gs_ne fm g_from (by decide)
        have g_to := gs_ne fm g_to (by decide)
        have g_falls := gs_eq fm hlen (by decide)
        have mu := mu.setF fm (by decide)
        have hlen := gs_len fm hlen
        refine x_aload_n C d_Mo_prepare_102 rfl rfl ?_
        refine x_iconst (v := 1) C d_Mo_prepare_103 (by decide) ?_
        refine x_put C k_Mo f_Mo_130 d_Mo_prepare_104 fm (by rfl) (by rfl) (by rfl) (by omega) rfl (fun h6 u6 => ?_)
        have fki := xUp_ne u6 fki (by first | assumption | exact Ne.symm (by assumption) | exact x_ne fki fm (by simp))
        have fnu := xUp_ne u6 fnu (by first | assumption | exact Ne.symm (by assumption) | exact x_ne fnu fm (by simp))
        have fco := xUp_ne u6 fco (by first | assumption | exact Ne.symm (by assumption) | exact x_ne fco fm (by simp))
        have fhk := xUp_ne u6 fhk (by first | assumption | exact Ne.symm (by assumption) | exact x_ne fhk fm (by simp))
        have fhn := xUp_ne u6 fhn (by first | assumption | exact Ne.symm (by assumption) | exact x_ne fhn fm (by simp))
        have fm := xUp_at u6
        have kp := kp.up u6 (by simp)
        have g_kinds := gs_ne fm g_kinds (by decide)
        have g_numbers := gs_ne fm g_numbers (by decide)
        have g_hadKinds := gs_ne fm g_hadKinds (by decide)
        have g_hadNumbers := gs_ne fm g_hadNumbers (by decide)
        have g_had := gs_ne fm g_had (by decide)
        have g_thrown := gs_ne fm g_thrown (by decide)
        have g_newFirst := gs_ne fm g_newFirst (by decide)
        have g_newSecond := gs_ne fm g_newSecond (by decide)
        have g_newFalls := gs_ne fm g_newFalls (by decide)
        have g_newFrom := gs_ne fm g_newFrom (by decide)
        have g_newTo := gs_ne fm g_newTo (by decide)
        have g_first := gs_ne fm g_first (by decide)
        have g_second := gs_ne fm g_second (by decide)
        have g_from := gs_ne fm g_from (by decide)
        have g_to := gs_ne fm g_to (by decide)
        have g_falls := gs_ne fm g_falls (by decide)
        have g_there := gs_eq fm hlen (by decide)
        have mu := mu.setF fm (by decide)
        have hlen := gs_len fm hlen
        refine x_aload_n C d_Mo_prepare_107 rfl rfl ?_
        refine x_callV C l_Mo_133 v_Mo_begins d_Mo_prepare_108 (m_Mo_begins fm hlen) fm rfl (by rfl) (by rfl) (by decide) (by decide) (Nat.le_of_ble_eq_true rfl) ?_
        rintro v7 h7 ⟨rfl, fs7, fm', mu7, g7_state, g7_given, g7_at, g7_beside, g7_row, kp7⟩
        have fki := kp7.get fki (nm_c (by first | assumption | exact Ne.symm (by assumption) | exact x_ne fki fm (by simp)) nm_n)
        have fnu := kp7.get fnu (nm_c (by first | assumption | exact Ne.symm (by assumption) | exact x_ne fnu fm (by simp)) nm_n)
        have fco := kp7.get fco (nm_c (by first | assumption | exact Ne.symm (by assumption) | exact x_ne fco fm (by simp)) nm_n)
        have fhk := kp7.get fhk (nm_c (by first | assumption | exact Ne.symm (by assumption) | exact x_ne fhk fm (by simp)) nm_n)
        have fhn := kp7.get fhn (nm_c (by first | assumption | exact Ne.symm (by assumption) | exact x_ne fhn fm (by simp)) nm_n)
        have kp := kp.call kp7 (kc_c (Or.inl (by simp)) kc_n)
        have fm := fm'
        have hlen := mu7.1.trans hlen
        have g_kinds := mu7.get g_kinds (by decide)
        have g_numbers := mu7.get g_numbers (by decide)
        have g_hadKinds := mu7.get g_hadKinds (by decide)
        have g_hadNumbers := mu7.get g_hadNumbers (by decide)
        have g_had := mu7.get g_had (by decide)
        have g_thrown := mu7.get g_thrown (by decide)
        have g_newFirst := mu7.get g_newFirst (by decide)
        have g_newSecond := mu7.get g_newSecond (by decide)
        have g_newFalls := mu7.get g_newFalls (by decide)
        have g_newFrom := mu7.get g_newFrom (by decide)
        have g_newTo := mu7.get g_newTo (by decide)
        have g_first := mu7.get g_first (by decide)
        have g_second := mu7.get g_second (by decide)
        have g_from := mu7.get g_from (by decide)
        have g_to := mu7.get g_to (by decide)
        have g_falls := mu7.get g_falls (by decide)
        have g_there := mu7.get g_there (by decide)
        have g_state := g7_state
        have g_given := g7_given
        have g_at := g7_at
        have g_beside := g7_beside
        have g_row := g7_row
        have mu := mu.tr mu7 (by decide)
        refine x_aload_n C d_Mo_prepare_111 rfl rfl ?_
        refine x_iconst (v := 0) C d_Mo_prepare_112 (by decide) ?_
        refine x_put C k_Mo f_Mo_49 d_Mo_prepare_113 fm (by rfl) (by rfl) (by rfl) (by omega) rfl (fun h8 u8 => ?_)
        have fki := xUp_ne u8 fki (by first | assumption | exact Ne.symm (by assumption) | exact x_ne fki fm (by simp))
        have fnu := xUp_ne u8 fnu (by first | assumption | exact Ne.symm (by assumption) | exact x_ne fnu fm (by simp))
        have fco := xUp_ne u8 fco (by first | assumption | exact Ne.symm (by assumption) | exact x_ne fco fm (by simp))
        have fhk := xUp_ne u8 fhk (by first | assumption | exact Ne.symm (by assumption) | exact x_ne fhk fm (by simp))
        have fhn := xUp_ne u8 fhn (by first | assumption | exact Ne.symm (by assumption) | exact x_ne fhn fm (by simp))
        have fm := xUp_at u8
        have kp := kp.up u8 (by simp)
        have g_kinds := gs_ne fm g_kinds (by decide)
        have g_numbers := gs_ne fm g_numbers (by decide)
        have g_hadKinds := gs_ne fm g_hadKinds (by decide)
        have g_hadNumbers := gs_ne fm g_hadNumbers (by decide)
        have g_had := gs_ne fm g_had (by decide)
        have g_thrown := gs_ne fm g_thrown (by decide)
        have g_newFirst := gs_ne fm g_newFirst (by decide)
        have g_newSecond := gs_ne fm g_newSecond (by decide)
        have g_newFalls := gs_ne fm g_newFalls (by decide)
        have g_newFrom := gs_ne fm g_newFrom (by decide)
        have g_newTo := gs_ne fm g_newTo (by decide)
        have g_first := gs_ne fm g_first (by decide)
        have g_second := gs_ne fm g_second (by decide)
        have g_from := gs_ne fm g_from (by decide)
        have g_to := gs_ne fm g_to (by decide)
        have g_falls := gs_ne fm g_falls (by decide)
        have g_there := gs_ne fm g_there (by decide)
        have g_state := gs_ne fm g_state (by decide)
        have g_given := gs_ne fm g_given (by decide)
        have g_at := gs_ne fm g_at (by decide)
        have g_beside := gs_ne fm g_beside (by decide)
        have g_row := gs_ne fm g_row (by decide)
        have g_pending := gs_eq fm hlen (by decide)
        have mu := mu.setF fm (by decide)
        have hlen := gs_len fm hlen
        refine x_iload_n C d_Mo_prepare_116 rfl rfl ?_
        refine x_iret C d_Mo_prepare_117 ?_
        first | exact ⟨_, hk, hn, _, rfl, fm, fhk, fhn, kp, g_thrown, g_pending, Or.inl ⟨htn, rfl, mu, rfl, rfl⟩⟩ | exact ⟨_, hk, hn, _, rfl, fm, fhk, fhn, kp, g_thrown, g_pending, Or.inr ⟨dd, fr, T, htp, rfl, hFT, Or.inl ⟨q11, mu, rfl, rfl⟩⟩⟩ | exact ⟨_, hk1, hn1, _, rfl, fm, fhk, fhn, kp, g_thrown, g_pending, Or.inr ⟨dd, fr, T, htp, hf0.symm, hFT, Or.inr ⟨rfl, mu, (by subst hi2; exact hcp), g_first, g_second, g_from, g_to, g_falls, g_there, g_state, g_given, g_at, g_beside, g_row⟩⟩⟩
      · skip
        have hi2 := nlt_of q29 (by omega) (by omega)
        refine x_aload_n C d_Mo_prepare_32 rfl rfl ?_
        refine x_get C k_Mo f_Mo_25 d_Mo_prepare_33 fm g_hadKinds ?_
        refine x_iload_n C d_Mo_prepare_36 rfl rfl ?_
        refine x_aload_n C d_Mo_prepare_37 rfl rfl ?_
        refine x_get C k_Mo f_Mo_19 d_Mo_prepare_38 fm g_kinds ?_
        refine x_iload_n C d_Mo_prepare_41 rfl rfl ?_
        refine x_iald C d_Mo_prepare_42 fki (vp_in_nI (by omega) (by decide)) ?_
        rw [nI_clamp (by omega)]
        refine x_iast C d_Mo_prepare_43 fhk (vp_in_nI (by omega) (by decide)) (fun h9 u9 => ?_)
        have fm := xUp_ne u9 fm (by first | assumption | exact Ne.symm (by assumption) | exact x_ne fm fhk (by simp))
        have fki := xUp_ne u9 fki (by first | assumption | exact Ne.symm (by assumption) | exact x_ne fki fhk (by simp))
        have fnu := xUp_ne u9 fnu (by first | assumption | exact Ne.symm (by assumption) | exact x_ne fnu fhk (by simp))
        have fco := xUp_ne u9 fco (by first | assumption | exact Ne.symm (by assumption) | exact x_ne fco fhk (by simp))
        have fhn := xUp_ne u9 fhn (by first | assumption | exact Ne.symm (by assumption) | exact x_ne fhn fhk (by simp))
        have fhk := xUp_at u9
        have kp := kp.up u9 (by simp)
        refine x_aload_n C d_Mo_prepare_44 rfl rfl ?_
        refine x_get C k_Mo f_Mo_28 d_Mo_prepare_45 fm g_hadNumbers ?_
        refine x_iload_n C d_Mo_prepare_48 rfl rfl ?_
        refine x_aload_n C d_Mo_prepare_49 rfl rfl ?_
        refine x_get C k_Mo f_Mo_22 d_Mo_prepare_50 fm g_numbers ?_
        refine x_iload_n C d_Mo_prepare_53 rfl rfl ?_
        refine x_iald C d_Mo_prepare_54 fnu (vp_in_nI (by omega) (by decide)) ?_
        rw [nI_clamp (by omega)]
        refine x_iast C d_Mo_prepare_55 fhn (vp_in_nI (by omega) (by decide)) (fun h10 u10 => ?_)
        have fm := xUp_ne u10 fm (by first | assumption | exact Ne.symm (by assumption) | exact x_ne fm fhn (by simp))
        have fki := xUp_ne u10 fki (by first | assumption | exact Ne.symm (by assumption) | exact x_ne fki fhn (by simp))
        have fnu := xUp_ne u10 fnu (by first | assumption | exact Ne.symm (by assumption) | exact x_ne fnu fhn (by simp))
        have fco := xUp_ne u10 fco (by first | assumption | exact Ne.symm (by assumption) | exact x_ne fco fhn (by simp))
        have fhk := xUp_ne u10 fhk (by first | assumption | exact Ne.symm (by assumption) | exact x_ne fhk fhn (by simp))
        have fhn := xUp_at u10
        have kp := kp.up u10 (by simp)
        refine x_iinc (v := nI (i + 1)) (k0 := 0) (lv' := [(2, _), (1, _), (0, _)]) C d_Mo_prepare_56 (by rfl) (nI_1 i) (by decide) (by rfl) ?_
        refine x_goto (tgt := 24) C d_Mo_prepare_59 rfl ?_
        refine ih (i + 1) _ _ (upd hk1 i (ks i)) (upd hn1 i (ns i)) dd fr T (by omega) (by omega) fm mu kp fki fnu fco (by rw [fhk, nI_clamp (by omega)]) (by rw [fhn, nI_clamp (by omega)]) (fun j hj => ?_) g_had g_thrown g_newFirst g_newSecond g_newFalls g_newFrom g_newTo hFT htp hf0
        by_cases hji : j = i
        · subst hji; exact ⟨pk_us, pk_us⟩
        · rw [pk_un hji, pk_un hji]; exact hcp j (by omega)
  refine x_aload_n C d_Mo_prepare_0 rfl rfl ?_
  refine x_iconst (v := 0) C d_Mo_prepare_1 (by decide) ?_
  refine x_put C k_Mo f_Mo_31 d_Mo_prepare_2 fm (by rfl) (by rfl) (by rfl) (by omega) rfl (fun h11 u11 => ?_)
  have fki := xUp_ne u11 fki (by first | assumption | exact Ne.symm (by assumption) | exact x_ne fki fm (by simp))
  have fnu := xUp_ne u11 fnu (by first | assumption | exact Ne.symm (by assumption) | exact x_ne fnu fm (by simp))
  have fco := xUp_ne u11 fco (by first | assumption | exact Ne.symm (by assumption) | exact x_ne fco fm (by simp))
  have fhk := xUp_ne u11 fhk (by first | assumption | exact Ne.symm (by assumption) | exact x_ne fhk fm (by simp))
  have fhn := xUp_ne u11 fhn (by first | assumption | exact Ne.symm (by assumption) | exact x_ne fhn fm (by simp))
  have fm := xUp_at u11
  have kp := kp.up u11 (by simp)
  have g_kinds := gs_ne fm g_kinds (by decide)
  have g_numbers := gs_ne fm g_numbers (by decide)
  have g_pending := gs_ne fm g_pending (by decide)
  have g_columns := gs_ne fm g_columns (by decide)
  have g_hadKinds := gs_ne fm g_hadKinds (by decide)
  have g_hadNumbers := gs_ne fm g_hadNumbers (by decide)
  have g_thrown := gs_eq fm hlen (by decide)
  have mu := mu.setF fm (by decide)
  have hlen := gs_len fm hlen
  refine x_aload_n C d_Mo_prepare_5 rfl rfl ?_
  refine x_callV C l_Mo_109 v_Mo_wrong d_Mo_prepare_6 (m_Mo_wrong fm hlen g_kinds g_numbers g_pending g_columns fki fnu fco hn60 hv) fm rfl (by rfl) (by rfl) (by decide) (by decide) (Nat.le_of_ble_eq_true rfl) ?_
  rintro v12 h12 ⟨fs12, fm', mu12, kp12, (⟨htn, rfl⟩ | ⟨dd, fr, T, htp, g12_newFirst, g12_newSecond, g12_newFalls, g12_newFrom, g12_newTo, hFT, rfl⟩)⟩
  · skip
    have fki := kp12.get fki (nm_c (by first | assumption | exact Ne.symm (by assumption) | exact x_ne fki fm (by simp)) nm_n)
    have fnu := kp12.get fnu (nm_c (by first | assumption | exact Ne.symm (by assumption) | exact x_ne fnu fm (by simp)) nm_n)
    have fco := kp12.get fco (nm_c (by first | assumption | exact Ne.symm (by assumption) | exact x_ne fco fm (by simp)) nm_n)
    have fhk := kp12.get fhk (nm_c (by first | assumption | exact Ne.symm (by assumption) | exact x_ne fhk fm (by simp)) nm_n)
    have fhn := kp12.get fhn (nm_c (by first | assumption | exact Ne.symm (by assumption) | exact x_ne fhn fm (by simp)) nm_n)
    have kp := kp.call kp12 (kc_c (Or.inl (by simp)) kc_n)
    have fm := fm'
    have hlen := mu12.1.trans hlen
    have g_kinds := mu12.get g_kinds (by decide)
    have g_numbers := mu12.get g_numbers (by decide)
    have g_pending := mu12.get g_pending (by decide)
    have g_columns := mu12.get g_columns (by decide)
    have g_hadKinds := mu12.get g_hadKinds (by decide)
    have g_hadNumbers := mu12.get g_hadNumbers (by decide)
    have g_thrown := mu12.get g_thrown (by decide)
    have mu := mu.tr mu12 (by decide)
    refine x_istore_n (lv' := [(1, _), (0, _)]) C d_Mo_prepare_9 rfl (by decide) (by rfl) ?_
    refine x_iload_n C d_Mo_prepare_10 rfl rfl ?_
    refine x_if_ne (tgt := 111) C d_Mo_prepare_11 rfl (fun q11 => ?_) (fun q11 => ?_)
    · skip
      refine x_aload_n C d_Mo_prepare_111 rfl rfl ?_
      refine x_iconst (v := 0) C d_Mo_prepare_112 (by decide) ?_
      refine x_put C k_Mo f_Mo_49 d_Mo_prepare_113 fm (by rfl) (by rfl) (by rfl) (by omega) rfl (fun h13 u13 => ?_)
      have fki := xUp_ne u13 fki (by first | assumption | exact Ne.symm (by assumption) | exact x_ne fki fm (by simp))
      have fnu := xUp_ne u13 fnu (by first | assumption | exact Ne.symm (by assumption) | exact x_ne fnu fm (by simp))
      have fco := xUp_ne u13 fco (by first | assumption | exact Ne.symm (by assumption) | exact x_ne fco fm (by simp))
      have fhk := xUp_ne u13 fhk (by first | assumption | exact Ne.symm (by assumption) | exact x_ne fhk fm (by simp))
      have fhn := xUp_ne u13 fhn (by first | assumption | exact Ne.symm (by assumption) | exact x_ne fhn fm (by simp))
      have fm := xUp_at u13
      have kp := kp.up u13 (by simp)
      have g_kinds := gs_ne fm g_kinds (by decide)
      have g_numbers := gs_ne fm g_numbers (by decide)
      have g_columns := gs_ne fm g_columns (by decide)
      have g_hadKinds := gs_ne fm g_hadKinds (by decide)
      have g_hadNumbers := gs_ne fm g_hadNumbers (by decide)
      have g_thrown := gs_ne fm g_thrown (by decide)
      have g_pending := gs_eq fm hlen (by decide)
      have mu := mu.setF fm (by decide)
      have hlen := gs_len fm hlen
      refine x_iload_n C d_Mo_prepare_116 rfl rfl ?_
      refine x_iret C d_Mo_prepare_117 ?_
      first | exact ⟨_, hk, hn, _, rfl, fm, fhk, fhn, kp, g_thrown, g_pending, Or.inl ⟨htn, rfl, mu, rfl, rfl⟩⟩ | exact ⟨_, hk, hn, _, rfl, fm, fhk, fhn, kp, g_thrown, g_pending, Or.inr ⟨dd, fr, T, htp, rfl, hFT, Or.inl ⟨q11, mu, rfl, rfl⟩⟩⟩ | exact ⟨_, hk1, hn1, _, rfl, fm, fhk, fhn, kp, g_thrown, g_pending, Or.inr ⟨dd, fr, T, htp, hf0.symm, hFT, Or.inr ⟨rfl, mu, (by subst hi2; exact hcp), g_first, g_second, g_from, g_to, g_falls, g_there, g_state, g_given, g_at, g_beside, g_row⟩⟩⟩
    · skip
      exact absurd q11 (by decide)
  · skip
    have fki := kp12.get fki (nm_c (by first | assumption | exact Ne.symm (by assumption) | exact x_ne fki fm (by simp)) nm_n)
    have fnu := kp12.get fnu (nm_c (by first | assumption | exact Ne.symm (by assumption) | exact x_ne fnu fm (by simp)) nm_n)
    have fco := kp12.get fco (nm_c (by first | assumption | exact Ne.symm (by assumption) | exact x_ne fco fm (by simp)) nm_n)
    have fhk := kp12.get fhk (nm_c (by first | assumption | exact Ne.symm (by assumption) | exact x_ne fhk fm (by simp)) nm_n)
    have fhn := kp12.get fhn (nm_c (by first | assumption | exact Ne.symm (by assumption) | exact x_ne fhn fm (by simp)) nm_n)
    have kp := kp.call kp12 (kc_c (Or.inl (by simp)) kc_n)
    have fm := fm'
    have hlen := mu12.1.trans hlen
    have g_kinds := mu12.get g_kinds (by decide)
    have g_numbers := mu12.get g_numbers (by decide)
    have g_pending := mu12.get g_pending (by decide)
    have g_columns := mu12.get g_columns (by decide)
    have g_hadKinds := mu12.get g_hadKinds (by decide)
    have g_hadNumbers := mu12.get g_hadNumbers (by decide)
    have g_thrown := mu12.get g_thrown (by decide)
    have g_newFirst := g12_newFirst
    have g_newSecond := g12_newSecond
    have g_newFalls := g12_newFalls
    have g_newFrom := g12_newFrom
    have g_newTo := g12_newTo
    have mu := mu.tr mu12 (by decide)
    refine x_istore_n (lv' := [(1, _), (0, _)]) C d_Mo_prepare_9 rfl (by decide) (by rfl) ?_
    refine x_iload_n C d_Mo_prepare_10 rfl rfl ?_
    refine x_if_ne (tgt := 111) C d_Mo_prepare_11 rfl (fun q11 => ?_) (fun q11 => ?_)
    · skip
      refine x_aload_n C d_Mo_prepare_111 rfl rfl ?_
      refine x_iconst (v := 0) C d_Mo_prepare_112 (by decide) ?_
      refine x_put C k_Mo f_Mo_49 d_Mo_prepare_113 fm (by rfl) (by rfl) (by rfl) (by omega) rfl (fun h14 u14 => ?_)
      have fki := xUp_ne u14 fki (by first | assumption | exact Ne.symm (by assumption) | exact x_ne fki fm (by simp))
      have fnu := xUp_ne u14 fnu (by first | assumption | exact Ne.symm (by assumption) | exact x_ne fnu fm (by simp))
      have fco := xUp_ne u14 fco (by first | assumption | exact Ne.symm (by assumption) | exact x_ne fco fm (by simp))
      have fhk := xUp_ne u14 fhk (by first | assumption | exact Ne.symm (by assumption) | exact x_ne fhk fm (by simp))
      have fhn := xUp_ne u14 fhn (by first | assumption | exact Ne.symm (by assumption) | exact x_ne fhn fm (by simp))
      have fm := xUp_at u14
      have kp := kp.up u14 (by simp)
      have g_kinds := gs_ne fm g_kinds (by decide)
      have g_numbers := gs_ne fm g_numbers (by decide)
      have g_columns := gs_ne fm g_columns (by decide)
      have g_hadKinds := gs_ne fm g_hadKinds (by decide)
      have g_hadNumbers := gs_ne fm g_hadNumbers (by decide)
      have g_thrown := gs_ne fm g_thrown (by decide)
      have g_newFirst := gs_ne fm g_newFirst (by decide)
      have g_newSecond := gs_ne fm g_newSecond (by decide)
      have g_newFalls := gs_ne fm g_newFalls (by decide)
      have g_newFrom := gs_ne fm g_newFrom (by decide)
      have g_newTo := gs_ne fm g_newTo (by decide)
      have g_pending := gs_eq fm hlen (by decide)
      have mu := mu.setF fm (by decide)
      have hlen := gs_len fm hlen
      refine x_iload_n C d_Mo_prepare_116 rfl rfl ?_
      refine x_iret C d_Mo_prepare_117 ?_
      first | exact ⟨_, hk, hn, _, rfl, fm, fhk, fhn, kp, g_thrown, g_pending, Or.inl ⟨htn, rfl, mu, rfl, rfl⟩⟩ | exact ⟨_, hk, hn, _, rfl, fm, fhk, fhn, kp, g_thrown, g_pending, Or.inr ⟨dd, fr, T, htp, rfl, hFT, Or.inl ⟨q11, mu, rfl, rfl⟩⟩⟩ | exact ⟨_, hk1, hn1, _, rfl, fm, fhk, fhn, kp, g_thrown, g_pending, Or.inr ⟨dd, fr, T, htp, hf0.symm, hFT, Or.inr ⟨rfl, mu, (by subst hi2; exact hcp), g_first, g_second, g_from, g_to, g_falls, g_there, g_state, g_given, g_at, g_beside, g_row⟩⟩⟩
    · skip
      replace mu : mUp [0, 7, 10, 11, 12, 13, 14, 15, 16, 17, 18, 19, 20, 21, 23, 24, 25, 26, 27, 28] fs _ := mu.mono (by decide)
      refine x_aload_n C d_Mo_prepare_14 rfl rfl ?_
      refine x_aload_n C d_Mo_prepare_15 rfl rfl ?_
      refine x_get C k_Mo f_Mo_49 d_Mo_prepare_16 fm g_pending ?_
      refine x_put C k_Mo f_Mo_112 d_Mo_prepare_19 fm (by rfl) (by rfl) (by rfl) (by omega) rfl (fun h15 u15 => ?_)
      have fki := xUp_ne u15 fki (by first | assumption | exact Ne.symm (by assumption) | exact x_ne fki fm (by simp))
      have fnu := xUp_ne u15 fnu (by first | assumption | exact Ne.symm (by assumption) | exact x_ne fnu fm (by simp))
      have fco := xUp_ne u15 fco (by first | assumption | exact Ne.symm (by assumption) | exact x_ne fco fm (by simp))
      have fhk := xUp_ne u15 fhk (by first | assumption | exact Ne.symm (by assumption) | exact x_ne fhk fm (by simp))
      have fhn := xUp_ne u15 fhn (by first | assumption | exact Ne.symm (by assumption) | exact x_ne fhn fm (by simp))
      have fm := xUp_at u15
      have kp := kp.up u15 (by simp)
      have g_kinds := gs_ne fm g_kinds (by decide)
      have g_numbers := gs_ne fm g_numbers (by decide)
      have g_pending := gs_ne fm g_pending (by decide)
      have g_columns := gs_ne fm g_columns (by decide)
      have g_hadKinds := gs_ne fm g_hadKinds (by decide)
      have g_hadNumbers := gs_ne fm g_hadNumbers (by decide)
      have g_thrown := gs_ne fm g_thrown (by decide)
      have g_newFirst := gs_ne fm g_newFirst (by decide)
      have g_newSecond := gs_ne fm g_newSecond (by decide)
      have g_newFalls := gs_ne fm g_newFalls (by decide)
      have g_newFrom := gs_ne fm g_newFrom (by decide)
      have g_newTo := gs_ne fm g_newTo (by decide)
      have g_had := gs_eq fm hlen (by decide)
      have mu := mu.setF fm (by decide)
      have hlen := gs_len fm hlen
      refine x_iconst (v := 0) C d_Mo_prepare_22 (by decide) ?_
      refine x_istore_n (lv' := [(2, _), (1, _), (0, _)]) C d_Mo_prepare_23 rfl (by decide) (by rfl) ?_
      rw [q11]
      exact loop (n + 1) 0 _ _ hk hn dd fr T (by omega) (by omega) fm mu kp fki fnu fco fhk fhn lt_0 g_had g_thrown g_newFirst g_newSecond g_newFalls g_newFrom g_newTo hFT htp q11
