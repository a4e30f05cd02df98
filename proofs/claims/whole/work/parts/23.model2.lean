/-! CursorBaseModel: reading the tokens -/
set_option maxRecDepth 20000 in
set_option maxHeartbeats 1000000 in
theorem m_Mo_readsConditions {V : xV} {h : xH} {mki mnu n p : Nat} {ks ns : Nat → Int32} {m : Nat} {fs : List Value} (fm : h m = some (.inr (8, fs))) (hlen : fs.length = 29) (g_kinds : fs[5]? = some (.ref mki)) (g_numbers : fs[6]? = some (.ref mnu)) (g_pending : fs[7]? = some (.int (nI n))) (g_read : fs[23]? = some (.int (nI p))) (fki : h mki = some (xI V 60 ks)) (fnu : h mnu = some (xI V 60 ns)) (hn60 : n ≤ 60) (hp : p ≤ 60) {tc : Option Nat} (htc : tConds ks ns n 8 8 p = tc) : xM V y_Mo_readsConditions b_Mo_readsConditions 2 (some .boolean) 3 [.ref m] h 0 0 (fun v h' => ∃ fs', h' m = some (.inr (8, fs')) ∧ mUp [23, 26, 27] fs fs' ∧ xKeep [m] h h' ∧ ((tc = none ∧ v = some (.int 0)) ∨ ∃ k fr, tc = some k ∧ v = some (.int 1) ∧ fs'[23]? = some (.int (nI (p + 4 * k))) ∧ fs'[26]? = some (.int (nI fr)) ∧ fs'[27]? = some (.int (nI (p + 4 * k))) ∧ (0 < k → fr = p + 1) ∧ (k = 0 → fr = p) ∧ k ≤ 8 ∧ p + 4 * k ≤ 60)) := by
  refine xM_of false (by decide) (fun h => nomatch h) (Nat.le_of_ble_eq_true rfl) (fun K C => ?_)
  show K 0 0 h 0 [(0, .ref m)] []
  have kp : xKeep [m] h h := xKeep.rf
  have mu : mUp [23, 26, 27] fs fs := mUp.rf
  have loop : ∀ mq : Nat, ∀ (i : Nat) (h1 : xH) (fs1 : List Value), 8 - i < mq → i ≤ 8 → h1 m = some (.inr (8, fs1)) → mUp [23, 26, 27] fs fs1 → h1 mki = some (xI V 60 ks) → h1 mnu = some (xI V 60 ns) → xKeep [m] h h1 → fs1[23]? = some (.int (nI (if i = 0 then p + 1 else p + 4 * i))) → fs1[26]? = some (.int (nI (p + 1))) → fs1[27]? = some (.int (nI (p + 4 * i))) → p + 4 * i ≤ 60 → (i = 0 → tW ks ns n p 8 8 = true) → tc = (tConds ks ns n (8 - i) (if i = 0 then 8 else 9) (p + 4 * i)).map (· + i) → K 0 0 h1 37 [(1, .int (nI i)), (0, .ref m)] [] := by
    intro mq
    induction mq with
    | zero => intro i h1 fs1 hm hi fm mu fki fnu kp g_read g_newFrom g_newTo hpi hw0 hT; omega
    | succ mq ih =>
      intro i h1 fs1 hm hi fm mu fki fnu kp g_read g_newFrom g_newTo hpi hw0 hT
      have hlen := mu.1.trans hlen
      have g_kinds := mu.get g_kinds (by decide)
      have g_numbers := mu.get g_numbers (by decide)
      have g_pending := mu.get g_pending (by decide)
      refine x_iload_n C d_Mo_readsConditions_37 rfl rfl ?_
      refine x_bipush (v := 8) C d_Mo_readsConditions_38 (by decide) ?_
      refine x_icmp_ge (tgt := 115) C d_Mo_readsConditions_40 rfl (fun q40 => ?_) (fun q40 => ?_)
      · skip
        have hi8 : i = 8 := by have := nge_of (b := 8) q40 (by omega); omega
        refine x_iconst (v := 1) C d_Mo_readsConditions_115 (by decide) ?_
        refine x_zret C d_Mo_readsConditions_116 (by rfl) ?_
        refine ⟨_, fm, mu, kp, Or.inr ⟨i, p + 1, ?_, rfl, by rw [if_neg (by omega)] at g_read; exact g_read, g_newFrom, g_newTo, fun _ => rfl, fun z => absurd z (by omega), by omega, by omega⟩⟩
        rw [hT, hi8]
        rfl
      · skip
        have hi8 := nlt_of (b := 8) q40 (by omega) (by omega)
        refine x_iload_n C d_Mo_readsConditions_43 rfl rfl ?_
        refine x_if_le (tgt := 58) C d_Mo_readsConditions_44 rfl (fun q44 => ?_) (fun q44 => ?_)
        · skip
          have hi0 : i = 0 := by
            rcases Nat.eq_zero_or_pos i with z | z
            · exact z
            · exact absurd q44 (nI_nle z (by omega))
          have hW : tW ks ns n (p + 4 * i) (if i = 0 then 8 else 9) (if i = 0 then 8 else 9) = true := by rw [if_pos hi0, hi0]; exact hw0 hi0
          have hpn := (tW_iff.mp hW).1
          rw [if_pos hi0, show p + 1 = p + 4 * i + 1 by omega] at g_read
          refine x_aload_n C d_Mo_readsConditions_58 rfl rfl ?_
          refine x_callV C l_Mo_71 v_Mo_readsOperand d_Mo_readsConditions_59 (m_Mo_readsOperand (p := p + 4 * i + 1) fm hlen g_kinds g_numbers g_pending g_read fki fnu hn60 (by omega)) fm rfl (by rfl) (by rfl) (by decide) (by decide) (Nat.le_of_ble_eq_true rfl) ?_
          rintro v1 h1 ⟨rfl, fs1, fm', mu1, g1_read, kp1⟩
          have fki := kp1.get fki (nm_c (by first | assumption | exact Ne.symm (by assumption) | exact x_ne fki fm (by simp)) nm_n)
          have fnu := kp1.get fnu (nm_c (by first | assumption | exact Ne.symm (by assumption) | exact x_ne fnu fm (by simp)) nm_n)
          have kp := kp.call kp1 (kc_c (Or.inl (by simp)) kc_n)
          have fm := fm'
          have hlen := mu1.1.trans hlen
          have g_kinds := mu1.get g_kinds (by decide)
          have g_numbers := mu1.get g_numbers (by decide)
          have g_pending := mu1.get g_pending (by decide)
          have g_newFrom := mu1.get g_newFrom (by decide)
          have g_newTo := mu1.get g_newTo (by decide)
          have g_read := g1_read
          have mu := mu.tr mu1 (by decide)
          refine x_if_eq (tgt := 99) C d_Mo_readsConditions_62 rfl (fun q62 => ?_) (fun q62 => ?_)
          · skip
            replace q62 := bI_f q62
            refine x_iconst (v := 0) C d_Mo_readsConditions_99 (by decide) ?_
            refine x_zret C d_Mo_readsConditions_100 (by rfl) ?_
            refine ⟨_, fm, mu, kp, Or.inl ⟨?_, rfl⟩⟩
            have hcd : tCond ks ns n (p + 4 * i + 1) = false := by
              unfold tCond
              first | (rw [q62]; rfl) | (rw [tW_cmp, q71, q80, q89]; simp; done) | (rw [q96]; simp; done)
            rw [hT, show 8 - i = (8 - (i + 1)) + 1 by omega, tConds, if_pos hW, if_neg (by rw [hcd]; decide)]
            rfl
          · skip
            replace q62 := bI_t q62
            rw [if_pos q62] at g_read
            have hp1 := tOp_lt q62
            refine x_aload_n C d_Mo_readsConditions_65 rfl rfl ?_
            refine x_bipush (v := 10) C d_Mo_readsConditions_66 (by decide) ?_
            refine x_callV C l_Mo_68 v_Mo_skips d_Mo_readsConditions_68 (m_Mo_skips (p := p + 4 * i + 1 + 1) fm hlen g_kinds g_numbers g_pending g_read fki fnu hn60 (by omega) 10) fm rfl (by rfl) (by rfl) (by decide) (by decide) (Nat.le_of_ble_eq_true rfl) ?_
            rintro v2 h2 ⟨rfl, fs2, fm', mu2, g2_read, kp2⟩
            have fki := kp2.get fki (nm_c (by first | assumption | exact Ne.symm (by assumption) | exact x_ne fki fm (by simp)) nm_n)
            have fnu := kp2.get fnu (nm_c (by first | assumption | exact Ne.symm (by assumption) | exact x_ne fnu fm (by simp)) nm_n)
            have kp := kp.call kp2 (kc_c (Or.inl (by simp)) kc_n)
            have fm := fm'
            have hlen := mu2.1.trans hlen
            have g_kinds := mu2.get g_kinds (by decide)
            have g_numbers := mu2.get g_numbers (by decide)
            have g_pending := mu2.get g_pending (by decide)
            have g_newFrom := mu2.get g_newFrom (by decide)
            have g_newTo := mu2.get g_newTo (by decide)
            have g_read := g2_read
            have mu := mu.tr mu2 (by decide)
            refine x_if_ne (tgt := 92) C d_Mo_readsConditions_71 rfl (fun q71 => ?_) (fun q71 => ?_)
            · skip
              replace q71 := bI_t q71
              rw [if_pos q71] at g_read
              have hcw : tW ks ns n (p + 4 * i + 1 + 1) 10 12 = true := by rw [tW_cmp, q71]; rfl
              have hp2 := (tW_iff.mp hcw).1
              refine x_aload_n C d_Mo_readsConditions_92 rfl rfl ?_
              refine x_callV C l_Mo_71 v_Mo_readsOperand d_Mo_readsConditions_93 (m_Mo_readsOperand (p := p + 4 * i + 1 + 1 + 1) fm hlen g_kinds g_numbers g_pending g_read fki fnu hn60 (by omega)) fm rfl (by rfl) (by rfl) (by decide) (by decide) (Nat.le_of_ble_eq_true rfl) ?_
              rintro v3 h3 ⟨rfl, fs3, fm', mu3, g3_read, kp3⟩
              have fki := kp3.get fki (nm_c (by first | assumption | exact Ne.symm (by assumption) | exact x_ne fki fm (by simp)) nm_n)
              have fnu := kp3.get fnu (nm_c (by first | assumption | exact Ne.symm (by assumption) | exact x_ne fnu fm (by simp)) nm_n)
              have kp := kp.call kp3 (kc_c (Or.inl (by simp)) kc_n)
              have fm := fm'
              have hlen := mu3.1.trans hlen
              have g_kinds := mu3.get g_kinds (by decide)
              have g_numbers := mu3.get g_numbers (by decide)
              have g_pending := mu3.get g_pending (by decide)
              have g_newFrom := mu3.get g_newFrom (by decide)
              have g_newTo := mu3.get g_newTo (by decide)
              have g_read := g3_read
              have mu := mu.tr mu3 (by decide)
              refine x_if_ne (tgt := 101) C d_Mo_readsConditions_96 rfl (fun q96 => ?_) (fun q96 => ?_)
              · skip
                replace q96 := bI_t q96
                rw [if_pos q96] at g_read
                have hp3 := tOp_lt q96
                have hcd : tCond ks ns n (p + 4 * i + 1) = true := tCond_iff.mpr ⟨q62, hcw, q96⟩
                refine x_aload_n C d_Mo_readsConditions_101 rfl rfl ?_
                refine x_aload_n C d_Mo_readsConditions_102 rfl rfl ?_
                refine x_get C k_Mo f_Mo_52 d_Mo_readsConditions_103 fm g_read ?_
                refine x_put C k_Mo f_Mo_65 d_Mo_readsConditions_106 fm (by rfl) (by rfl) (by rfl) (by omega) rfl (fun h4 u4 => ?_)
                have fki := xUp_ne u4 fki (by first | assumption | exact Ne.symm (by assumption) | exact x_ne fki fm (by simp))
                have fnu := xUp_ne u4 fnu (by first | assumption | exact Ne.symm (by assumption) | exact x_ne fnu fm (by simp))
                have fm := xUp_at u4
                have kp := kp.up u4 (by simp)
                have g_kinds := gs_ne fm g_kinds (by decide)
                have g_numbers := gs_ne fm g_numbers (by decide)
                have g_pending := gs_ne fm g_pending (by decide)
                have g_newFrom := gs_ne fm g_newFrom (by decide)
                have g_read := gs_ne fm g_read (by decide)
                have g_newTo := gs_eq fm hlen (by decide)
                have mu := mu.setF fm (by decide)
                have hlen := gs_len fm hlen
                refine x_iinc (v := nI (i + 1)) (k0 := 0) (lv' := [(1, _), (0, _)]) C d_Mo_readsConditions_109 (by rfl) (nI_1 i) (by decide) (by rfl) ?_
                refine x_goto (tgt := 37) C d_Mo_readsConditions_112 rfl ?_
                refine ih (i + 1) _ _ (by omega) (by omega) fm mu fki fnu kp (by rw [if_neg (by omega), g_read]; rfl) g_newFrom (by rw [g_newTo]; rfl) (by omega) (fun z => absurd z (by omega)) ?_
                rw [if_neg (by omega), hT, show 8 - i = (8 - (i + 1)) + 1 by omega, tConds, if_pos hW, if_pos hcd, Option.map_map, show p + 4 * i + 4 = p + 4 * (i + 1) by omega]
                cases tConds ks ns n (8 - (i + 1)) 9 (p + 4 * (i + 1)) with
                | none => rfl
                | some z => exact congrArg some (by show z + 1 + i = z + (i + 1); omega)
              · skip
                replace q96 := bI_f q96
                refine x_iconst (v := 0) C d_Mo_readsConditions_99 (by decide) ?_
                refine x_zret C d_Mo_readsConditions_100 (by rfl) ?_
                refine ⟨_, fm, mu, kp, Or.inl ⟨?_, rfl⟩⟩
                have hcd : tCond ks ns n (p + 4 * i + 1) = false := by
                  unfold tCond
                  first | (rw [q62]; rfl) | (rw [tW_cmp, q71, q80, q89]; simp; done) | (rw [q96]; simp; done)
                rw [hT, show 8 - i = (8 - (i + 1)) + 1 by omega, tConds, if_pos hW, if_neg (by rw [hcd]; decide)]
                rfl
            · skip
              replace q71 := bI_f q71
              rw [if_neg (by rw [q71]; decide)] at g_read
              refine x_aload_n C d_Mo_readsConditions_74 rfl rfl ?_
              refine x_bipush (v := 11) C d_Mo_readsConditions_75 (by decide) ?_
              refine x_callV C l_Mo_68 v_Mo_skips d_Mo_readsConditions_77 (m_Mo_skips (p := p + 4 * i + 1 + 1) fm hlen g_kinds g_numbers g_pending g_read fki fnu hn60 (by omega) 11) fm rfl (by rfl) (by rfl) (by decide) (by decide) (Nat.le_of_ble_eq_true rfl) ?_
              rintro v5 h5 ⟨rfl, fs5, fm', mu5, g5_read, kp5⟩
              have fki := kp5.get fki (nm_c (by first | assumption | exact Ne.symm (by assumption) | exact x_ne fki fm (by simp)) nm_n)
              have fnu := kp5.get fnu (nm_c (by first | assumption | exact Ne.symm (by assumption) | exact x_ne fnu fm (by simp)) nm_n)
              have kp := kp.call kp5 (kc_c (Or.inl (by simp)) kc_n)
              have fm := fm'
              have hlen := mu5.1.trans hlen
              have g_kinds := mu5.get g_kinds (by decide)
              have g_numbers := mu5.get g_numbers (by decide)
              have g_pending := mu5.get g_pending (by decide)
              have g_newFrom := mu5.get g_newFrom (by decide)
              have g_newTo := mu5.get g_newTo (by decide)
              have g_read := g5_read
              have mu := mu.tr mu5 (by decide)
              refine x_if_ne (tgt := 92) C d_Mo_readsConditions_80 rfl (fun q80 => ?_) (fun q80 => ?_)
              · skip
                replace q80 := bI_t q80
                rw [if_pos q80] at g_read
                have hcw : tW ks ns n (p + 4 * i + 1 + 1) 10 12 = true := by rw [tW_cmp, q71, q80]; rfl
                have hp2 := (tW_iff.mp hcw).1
                refine x_aload_n C d_Mo_readsConditions_92 rfl rfl ?_
                refine x_callV C l_Mo_71 v_Mo_readsOperand d_Mo_readsConditions_93 (m_Mo_readsOperand (p := p + 4 * i + 1 + 1 + 1) fm hlen g_kinds g_numbers g_pending g_read fki fnu hn60 (by omega)) fm rfl (by rfl) (by rfl) (by decide) (by decide) (Nat.le_of_ble_eq_true rfl) ?_
                rintro v6 h6 ⟨rfl, fs6, fm', mu6, g6_read, kp6⟩
                have fki := kp6.get fki (nm_c (by first | assumption | exact Ne.symm (by assumption) | exact x_ne fki fm (by simp)) nm_n)
                have fnu := kp6.get fnu (nm_c (by first | assumption | exact Ne.symm (by assumption) | exact x_ne fnu fm (by simp)) nm_n)
                have kp := kp.call kp6 (kc_c (Or.inl (by simp)) kc_n)
                have fm := fm'
                have hlen := mu6.1.trans hlen
                have g_kinds := mu6.get g_kinds (by decide)
                have g_numbers := mu6.get g_numbers (by decide)
                have g_pending := mu6.get g_pending (by decide)
                have g_newFrom := mu6.get g_newFrom (by decide)
                have g_newTo := mu6.get g_newTo (by decide)
                have g_read := g6_read
                have mu := mu.tr mu6 (by decide)
                refine x_if_ne (tgt := 101) C d_Mo_readsConditions_96 rfl (fun q96 => ?_) (fun q96 => ?_)
                · skip
                  replace q96 := bI_t q96
                  rw [if_pos q96] at g_read
                  have hp3 := tOp_lt q96
                  have hcd : tCond ks ns n (p + 4 * i + 1) = true := tCond_iff.mpr ⟨q62, hcw, q96⟩
                  refine x_aload_n C d_Mo_readsConditions_101 rfl rfl ?_
                  refine x_aload_n C d_Mo_readsConditions_102 rfl rfl ?_
                  refine x_get C k_Mo f_Mo_52 d_Mo_readsConditions_103 fm g_read ?_
                  refine x_put C k_Mo f_Mo_65 d_Mo_readsConditions_106 fm (by rfl) (by rfl) (by rfl) (by omega) rfl (fun h7 u7 => ?_)
                  have fki := xUp_ne u7 fki (by first | assumption | exact Ne.symm (by assumption) | exact x_ne fki fm (by simp))
                  have fnu := xUp_ne u7 fnu (by first | assumption | exact Ne.symm (by assumption) | exact x_ne fnu fm (by simp))
                  have fm := xUp_at u7
                  have kp := kp.up u7 (by simp)
                  have g_kinds := gs_ne fm g_kinds (by decide)
                  have g_numbers := gs_ne fm g_numbers (by decide)
                  have g_pending := gs_ne fm g_pending (by decide)
                  have g_newFrom := gs_ne fm g_newFrom (by decide)
                  have g_read := gs_ne fm g_read (by decide)
                  have g_newTo := gs_eq fm hlen (by decide)
                  have mu := mu.setF fm (by decide)
                  have hlen := gs_len fm hlen
                  refine x_iinc (v := nI (i + 1)) (k0 := 0) (lv' := [(1, _), (0, _)]) C d_Mo_readsConditions_109 (by rfl) (nI_1 i) (by decide) (by rfl) ?_
                  refine x_goto (tgt := 37) C d_Mo_readsConditions_112 rfl ?_
                  refine ih (i + 1) _ _ (by omega) (by omega) fm mu fki fnu kp (by rw [if_neg (by omega), g_read]; rfl) g_newFrom (by rw [g_newTo]; rfl) (by omega) (fun z => absurd z (by omega)) ?_
                  rw [if_neg (by omega), hT, show 8 - i = (8 - (i + 1)) + 1 by omega, tConds, if_pos hW, if_pos hcd, Option.map_map, show p + 4 * i + 4 = p + 4 * (i + 1) by omega]
                  cases tConds ks ns n (8 - (i + 1)) 9 (p + 4 * (i + 1)) with
                  | none => rfl
                  | some z => exact congrArg some (by show z + 1 + i = z + (i + 1); omega)
                · skip
                  replace q96 := bI_f q96
                  refine x_iconst (v := 0) C d_Mo_readsConditions_99 (by decide) ?_
                  refine x_zret C d_Mo_readsConditions_100 (by rfl) ?_
                  refine ⟨_, fm, mu, kp, Or.inl ⟨?_, rfl⟩⟩
                  have hcd : tCond ks ns n (p + 4 * i + 1) = false := by
                    unfold tCond
                    first | (rw [q62]; rfl) | (rw [tW_cmp, q71, q80, q89]; simp; done) | (rw [q96]; simp; done)
                  rw [hT, show 8 - i = (8 - (i + 1)) + 1 by omega, tConds, if_pos hW, if_neg (by rw [hcd]; decide)]
                  rfl
              · skip
                replace q80 := bI_f q80
                rw [if_neg (by rw [q80]; decide)] at g_read
                refine x_aload_n C d_Mo_readsConditions_83 rfl rfl ?_
                refine x_bipush (v := 12) C d_Mo_readsConditions_84 (by decide) ?_
                refine x_callV C l_Mo_68 v_Mo_skips d_Mo_readsConditions_86 (m_Mo_skips (p := p + 4 * i + 1 + 1) fm hlen g_kinds g_numbers g_pending g_read fki fnu hn60 (by omega) 12) fm rfl (by rfl) (by rfl) (by decide) (by decide) (Nat.le_of_ble_eq_true rfl) ?_
                rintro v8 h8 ⟨rfl, fs8, fm', mu8, g8_read, kp8⟩
                have fki := kp8.get fki (nm_c (by first | assumption | exact Ne.symm (by assumption) | exact x_ne fki fm (by simp)) nm_n)
                have fnu := kp8.get fnu (nm_c (by first | assumption | exact Ne.symm (by assumption) | exact x_ne fnu fm (by simp)) nm_n)
                have kp := kp.call kp8 (kc_c (Or.inl (by simp)) kc_n)
                have fm := fm'
                have hlen := mu8.1.trans hlen
                have g_kinds := mu8.get g_kinds (by decide)
                have g_numbers := mu8.get g_numbers (by decide)
                have g_pending := mu8.get g_pending (by decide)
                have g_newFrom := mu8.get g_newFrom (by decide)
                have g_newTo := mu8.get g_newTo (by decide)
                have g_read := g8_read
                have mu := mu.tr mu8 (by decide)
                refine x_if_eq (tgt := 99) C d_Mo_readsConditions_89 rfl (fun q89 => ?_) (fun q89 => ?_)
                · skip
                  replace q89 := bI_f q89
                  refine x_iconst (v := 0) C d_Mo_readsConditions_99 (by decide) ?_
                  refine x_zret C d_Mo_readsConditions_100 (by rfl) ?_
                  refine ⟨_, fm, mu, kp, Or.inl ⟨?_, rfl⟩⟩
                  have hcd : tCond ks ns n (p + 4 * i + 1) = false := by
                    unfold tCond
                    first | (rw [q62]; rfl) | (rw [tW_cmp, q71, q80, q89]; simp; done) | (rw [q96]; simp; done)
                  rw [hT, show 8 - i = (8 - (i + 1)) + 1 by omega, tConds, if_pos hW, if_neg (by rw [hcd]; decide)]
                  rfl
                · skip
                  replace q89 := bI_t q89
                  rw [if_pos q89] at g_read
                  have hcw : tW ks ns n (p + 4 * i + 1 + 1) 10 12 = true := by rw [tW_cmp, q71, q80, q89]; rfl
                  have hp2 := (tW_iff.mp hcw).1
                  refine x_aload_n C d_Mo_readsConditions_92 rfl rfl ?_
                  refine x_callV C l_Mo_71 v_Mo_readsOperand d_Mo_readsConditions_93 (m_Mo_readsOperand (p := p + 4 * i + 1 + 1 + 1) fm hlen g_kinds g_numbers g_pending g_read fki fnu hn60 (by omega)) fm rfl (by rfl) (by rfl) (by decide) (by decide) (Nat.le_of_ble_eq_true rfl) ?_
                  rintro v9 h9 ⟨rfl, fs9, fm', mu9, g9_read, kp9⟩
                  have fki := kp9.get fki (nm_c (by first | assumption | exact Ne.symm (by assumption) | exact x_ne fki fm (by simp)) nm_n)
                  have fnu := kp9.get fnu (nm_c (by first | assumption | exact Ne.symm (by assumption) | exact x_ne fnu fm (by simp)) nm_n)
                  have kp := kp.call kp9 (kc_c (Or.inl (by simp)) kc_n)
                  have fm := fm'
                  have hlen := mu9.1.trans hlen
                  have g_kinds := mu9.get g_kinds (by decide)
                  have g_numbers := mu9.get g_numbers (by decide)
                  have g_pending := mu9.get g_pending (by decide)
                  have g_newFrom := mu9.get g_newFrom (by decide)
                  have g_newTo := mu9.get g_newTo (by decide)
                  have g_read := g9_read
                  have mu := mu.tr mu9 (by decide)
                  refine x_if_ne (tgt := 101) C d_Mo_readsConditions_96 rfl (fun q96 => ?_) (fun q96 => ?_)
                  · skip
                    replace q96 := bI_t q96
                    rw [if_pos q96] at g_read
                    have hp3 := tOp_lt q96
                    have hcd : tCond ks ns n (p + 4 * i + 1) = true := tCond_iff.mpr ⟨q62, hcw, q96⟩
                    refine x_aload_n C d_Mo_readsConditions_101 rfl rfl ?_
                    refine x_aload_n C d_Mo_readsConditions_102 rfl rfl ?_
                    refine x_get C k_Mo f_Mo_52 d_Mo_readsConditions_103 fm g_read ?_
                    refine x_put C k_Mo f_Mo_65 d_Mo_readsConditions_106 fm (by rfl) (by rfl) (by rfl) (by omega) rfl (fun h10 u10 => ?_)
                    have fki := xUp_ne u10 fki (by first | assumption | exact Ne.symm (by assumption) | exact x_ne fki fm (by simp))
                    have fnu := xUp_ne u10 fnu (by first | assumption | exact Ne.symm (by assumption) | exact x_ne fnu fm (by simp))
                    have fm := xUp_at u10
                    have kp := kp.up u10 (by simp)
                    have g_kinds := gs_ne fm g_kinds (by decide)
                    have g_numbers := gs_ne fm g_numbers (by decide)
                    have g_pending := gs_ne fm g_pending (by decide)
                    have g_newFrom := gs_ne fm g_newFrom (by decide)
                    have g_read := gs_ne fm g_read (by decide)
                    have g_newTo := gs_eq fm hlen (by decide)
                    have mu := mu.setF fm (by decide)
                    have hlen := gs_len fm hlen
                    refine x_iinc (v := nI (i + 1)) (k0 := 0) (lv' := [(1, _), (0, _)]) C d_Mo_readsConditions_109 (by rfl) (nI_1 i) (by decide) (by rfl) ?_
                    refine x_goto (tgt := 37) C d_Mo_readsConditions_112 rfl ?_
                    refine ih (i + 1) _ _ (by omega) (by omega) fm mu fki fnu kp (by rw [if_neg (by omega), g_read]; rfl) g_newFrom (by rw [g_newTo]; rfl) (by omega) (fun z => absurd z (by omega)) ?_
                    rw [if_neg (by omega), hT, show 8 - i = (8 - (i + 1)) + 1 by omega, tConds, if_pos hW, if_pos hcd, Option.map_map, show p + 4 * i + 4 = p + 4 * (i + 1) by omega]
                    cases tConds ks ns n (8 - (i + 1)) 9 (p + 4 * (i + 1)) with
                    | none => rfl
                    | some z => exact congrArg some (by show z + 1 + i = z + (i + 1); omega)
                  · skip
                    replace q96 := bI_f q96
                    refine x_iconst (v := 0) C d_Mo_readsConditions_99 (by decide) ?_
                    refine x_zret C d_Mo_readsConditions_100 (by rfl) ?_
                    refine ⟨_, fm, mu, kp, Or.inl ⟨?_, rfl⟩⟩
                    have hcd : tCond ks ns n (p + 4 * i + 1) = false := by
                      unfold tCond
                      first | (rw [q62]; rfl) | (rw [tW_cmp, q71, q80, q89]; simp; done) | (rw [q96]; simp; done)
                    rw [hT, show 8 - i = (8 - (i + 1)) + 1 by omega, tConds, if_pos hW, if_neg (by rw [hcd]; decide)]
                    rfl
        · skip
          have hi0 : ¬ i = 0 := fun z => by rw [z] at q44; exact q44 (by decide)
          rw [if_neg hi0] at g_read
          refine x_aload_n C d_Mo_readsConditions_47 rfl rfl ?_
          refine x_bipush (v := 9) C d_Mo_readsConditions_48 (by decide) ?_
          refine x_callV C l_Mo_68 v_Mo_skips d_Mo_readsConditions_50 (m_Mo_skips (p := p + 4 * i) fm hlen g_kinds g_numbers g_pending g_read fki fnu hn60 (by omega) 9) fm rfl (by rfl) (by rfl) (by decide) (by decide) (Nat.le_of_ble_eq_true rfl) ?_
          rintro v11 h11 ⟨rfl, fs11, fm', mu11, g11_read, kp11⟩
          have fki := kp11.get fki (nm_c (by first | assumption | exact Ne.symm (by assumption) | exact x_ne fki fm (by simp)) nm_n)
          have fnu := kp11.get fnu (nm_c (by first | assumption | exact Ne.symm (by assumption) | exact x_ne fnu fm (by simp)) nm_n)
          have kp := kp.call kp11 (kc_c (Or.inl (by simp)) kc_n)
          have fm := fm'
          have hlen := mu11.1.trans hlen
          have g_kinds := mu11.get g_kinds (by decide)
          have g_numbers := mu11.get g_numbers (by decide)
          have g_pending := mu11.get g_pending (by decide)
          have g_newFrom := mu11.get g_newFrom (by decide)
          have g_newTo := mu11.get g_newTo (by decide)
          have g_read := g11_read
          have mu := mu.tr mu11 (by decide)
          refine x_if_ne (tgt := 58) C d_Mo_readsConditions_53 rfl (fun q53 => ?_) (fun q53 => ?_)
          · skip
            replace q53 := bI_t q53
            rw [if_pos q53] at g_read
            have hW : tW ks ns n (p + 4 * i) (if i = 0 then 8 else 9) (if i = 0 then 8 else 9) = true := by rw [if_neg hi0, ← tS_eq]; exact q53
            have hpn := (tW_iff.mp hW).1
            refine x_aload_n C d_Mo_readsConditions_58 rfl rfl ?_
            refine x_callV C l_Mo_71 v_Mo_readsOperand d_Mo_readsConditions_59 (m_Mo_readsOperand (p := p + 4 * i + 1) fm hlen g_kinds g_numbers g_pending g_read fki fnu hn60 (by omega)) fm rfl (by rfl) (by rfl) (by decide) (by decide) (Nat.le_of_ble_eq_true rfl) ?_
            rintro v12 h12 ⟨rfl, fs12, fm', mu12, g12_read, kp12⟩
            have fki := kp12.get fki (nm_c (by first | assumption | exact Ne.symm (by assumption) | exact x_ne fki fm (by simp)) nm_n)
            have fnu := kp12.get fnu (nm_c (by first | assumption | exact Ne.symm (by assumption) | exact x_ne fnu fm (by simp)) nm_n)
            have kp := kp.call kp12 (kc_c (Or.inl (by simp)) kc_n)
            have fm := fm'
            have hlen := mu12.1.trans hlen
            have g_kinds := mu12.get g_kinds (by decide)
            have g_numbers := mu12.get g_numbers (by decide)
            have g_pending := mu12.get g_pending (by decide)
            have g_newFrom := mu12.get g_newFrom (by decide)
            have g_newTo := mu12.get g_newTo (by decide)
            have g_read := g12_read
            have mu := mu.tr mu12 (by decide)
            refine x_if_eq (tgt := 99) C d_Mo_readsConditions_62 rfl (fun q62 => ?_) (fun q62 => ?_)
            · skip
              replace q62 := bI_f q62
              refine x_iconst (v := 0) C d_Mo_readsConditions_99 (by decide) ?_
              refine x_zret C d_Mo_readsConditions_100 (by rfl) ?_
              refine ⟨_, fm, mu, kp, Or.inl ⟨?_, rfl⟩⟩
              have hcd : tCond ks ns n (p + 4 * i + 1) = false := by
                unfold tCond
                first | (rw [q62]; rfl) | (rw [tW_cmp, q71, q80, q89]; simp; done) | (rw [q96]; simp; done)
              rw [hT, show 8 - i = (8 - (i + 1)) + 1 by omega, tConds, if_pos hW, if_neg (by rw [hcd]; decide)]
              rfl
            · skip
              replace q62 := bI_t q62
              rw [if_pos q62] at g_read
              have hp1 := tOp_lt q62
              refine x_aload_n C d_Mo_readsConditions_65 rfl rfl ?_
              refine x_bipush (v := 10) C d_Mo_readsConditions_66 (by decide) ?_
              refine x_callV C l_Mo_68 v_Mo_skips d_Mo_readsConditions_68 (m_Mo_skips (p := p + 4 * i + 1 + 1) fm hlen g_kinds g_numbers g_pending g_read fki fnu hn60 (by omega) 10) fm rfl (by rfl) (by rfl) (by decide) (by decide) (Nat.le_of_ble_eq_true rfl) ?_
              rintro v13 h13 ⟨rfl, fs13, fm', mu13, g13_read, kp13⟩
              have fki := kp13.get fki (nm_c (by first | assumption | exact Ne.symm (by assumption) | exact x_ne fki fm (by simp)) nm_n)
              have fnu := kp13.get fnu (nm_c (by first | assumption | exact Ne.symm (by assumption) | exact x_ne fnu fm (by simp)) nm_n)
              have kp := kp.call kp13 (kc_c (Or.inl (by simp)) kc_n)
              have fm := fm'
              have hlen := mu13.1.trans hlen
              have g_kinds := mu13.get g_kinds (by decide)
              have g_numbers := mu13.get g_numbers (by decide)
              have g_pending := mu13.get g_pending (by decide)
              have g_newFrom := mu13.get g_newFrom (by decide)
              have g_newTo := mu13.get g_newTo (by decide)
              have g_read := g13_read
              have mu := mu.tr mu13 (by decide)
              refine x_if_ne (tgt := 92) C d_Mo_readsConditions_71 rfl (fun q71 => ?_) (fun q71 => ?_)
              · skip
                replace q71 := bI_t q71
                rw [if_pos q71] at g_read
                have hcw : tW ks ns n (p + 4 * i + 1 + 1) 10 12 = true := by rw [tW_cmp, q71]; rfl
                have hp2 := (tW_iff.mp hcw).1
                refine x_aload_n C d_Mo_readsConditions_92 rfl rfl ?_
                refine x_callV C l_Mo_71 v_Mo_readsOperand d_Mo_readsConditions_93 (m_Mo_readsOperand (p := p + 4 * i + 1 + 1 + 1) fm hlen g_kinds g_numbers g_pending g_read fki fnu hn60 (by omega)) fm rfl (by rfl) (by rfl) (by decide) (by decide) (Nat.le_of_ble_eq_true rfl) ?_
                rintro v14 h14 ⟨rfl, fs14, fm', mu14, g14_read, kp14⟩
                have fki := kp14.get fki (nm_c (by first | assumption | exact Ne.symm (by assumption) | exact x_ne fki fm (by simp)) nm_n)
                have fnu := kp14.get fnu (nm_c (by first | assumption | exact Ne.symm (by assumption) | exact x_ne fnu fm (by simp)) nm_n)
                have kp := kp.call kp14 (kc_c (Or.inl (by simp)) kc_n)
                have fm := fm'
                have hlen := mu14.1.trans hlen
                have g_kinds := mu14.get g_kinds (by decide)
                have g_numbers := mu14.get g_numbers (by decide)
                have g_pending := mu14.get g_pending (by decide)
                have g_newFrom := mu14.get g_newFrom (by decide)
                have g_newTo := mu14.get g_newTo (by decide)
                have g_read := g14_read
                have mu := mu.tr mu14 (by decide)
                refine x_if_ne (tgt := 101) C d_Mo_readsConditions_96 rfl (fun q96 => ?_) (fun q96 => ?_)
                · skip
                  replace q96 := bI_t q96
                  rw [if_pos q96] at g_read
                  have hp3 := tOp_lt q96
                  have hcd : tCond ks ns n (p + 4 * i + 1) = true := tCond_iff.mpr ⟨q62, hcw, q96⟩
                  refine x_aload_n C d_Mo_readsConditions_101 rfl rfl ?_
                  refine x_aload_n C d_Mo_readsConditions_102 rfl rfl ?_
                  refine x_get C k_Mo f_Mo_52 d_Mo_readsConditions_103 fm g_read ?_
                  refine x_put C k_Mo f_Mo_65 d_Mo_readsConditions_106 fm (by rfl) (by rfl) (by rfl) (by omega) rfl (fun h15 u15 => ?_)
                  have fki := xUp_ne u15 fki (by first | assumption | exact Ne.symm (by assumption) | exact x_ne fki fm (by simp))
                  have fnu := xUp_ne u15 fnu (by first | assumption | exact Ne.symm (by assumption) | exact x_ne fnu fm (by simp))
                  have fm := xUp_at u15
                  have kp := kp.up u15 (by simp)
                  have g_kinds := gs_ne fm g_kinds (by decide)
                  have g_numbers := gs_ne fm g_numbers (by decide)
                  have g_pending := gs_ne fm g_pending (by decide)
                  have g_newFrom := gs_ne fm g_newFrom (by decide)
                  have g_read := gs_ne fm g_read (by decide)
                  have g_newTo := gs_eq fm hlen (by decide)
                  have mu := mu.setF fm (by decide)
                  have hlen := gs_len fm hlen
                  refine x_iinc (v := nI (i + 1)) (k0 := 0) (lv' := [(1, _), (0, _)]) C d_Mo_readsConditions_109 (by rfl) (nI_1 i) (by decide) (by rfl) ?_
                  refine x_goto (tgt := 37) C d_Mo_readsConditions_112 rfl ?_
                  refine ih (i + 1) _ _ (by omega) (by omega) fm mu fki fnu kp (by rw [if_neg (by omega), g_read]; rfl) g_newFrom (by rw [g_newTo]; rfl) (by omega) (fun z => absurd z (by omega)) ?_
                  rw [if_neg (by omega), hT, show 8 - i = (8 - (i + 1)) + 1 by omega, tConds, if_pos hW, if_pos hcd, Option.map_map, show p + 4 * i + 4 = p + 4 * (i + 1) by omega]
                  cases tConds ks ns n (8 - (i + 1)) 9 (p + 4 * (i + 1)) with
                  | none => rfl
                  | some z => exact congrArg some (by show z + 1 + i = z + (i + 1); omega)
                · skip
                  replace q96 := bI_f q96
                  refine x_iconst (v := 0) C d_Mo_readsConditions_99 (by decide) ?_
                  refine x_zret C d_Mo_readsConditions_100 (by rfl) ?_
                  refine ⟨_, fm, mu, kp, Or.inl ⟨?_, rfl⟩⟩
                  have hcd : tCond ks ns n (p + 4 * i + 1) = false := by
                    unfold tCond
                    first | (rw [q62]; rfl) | (rw [tW_cmp, q71, q80, q89]; simp; done) | (rw [q96]; simp; done)
                  rw [hT, show 8 - i = (8 - (i + 1)) + 1 by omega, tConds, if_pos hW, if_neg (by rw [hcd]; decide)]
                  rfl
              · skip
                replace q71 := bI_f q71
                rw [if_neg (by rw [q71]; decide)] at g_read
                refine x_aload_n C d_Mo_readsConditions_74 rfl rfl ?_
                refine x_bipush (v := 11) C d_Mo_readsConditions_75 (by decide) ?_
                refine x_callV C l_Mo_68 v_Mo_skips d_Mo_readsConditions_77 (m_Mo_skips (p := p + 4 * i + 1 + 1) fm hlen g_kinds g_numbers g_pending g_read fki fnu hn60 (by omega) 11) fm rfl (by rfl) (by rfl) (by decide) (by decide) (Nat.le_of_ble_eq_true rfl) ?_
                rintro v16 h16 ⟨rfl, fs16, fm', mu16, g16_read, kp16⟩
                have fki := kp16.get fki (nm_c (by first | assumption | exact Ne.symm (by assumption) | exact x_ne fki fm (by simp)) nm_n)
                have fnu := kp16.get fnu (nm_c (by first | assumption | exact Ne.symm (by assumption) | exact x_ne fnu fm (by simp)) nm_n)
                have kp := kp.call kp16 (kc_c (Or.inl (by simp)) kc_n)
                have fm := fm'
                have hlen := mu16.1.trans hlen
                have g_kinds := mu16.get g_kinds (by decide)
                have g_numbers := mu16.get g_numbers (by decide)
                have g_pending := mu16.get g_pending (by decide)
                have g_newFrom := mu16.get g_newFrom (by decide)
                have g_newTo := mu16.get g_newTo (by decide)
                have g_read := g16_read
                have mu := mu.tr mu16 (by decide)
                refine x_if_ne (tgt := 92) C d_Mo_readsConditions_80 rfl (fun q80 => ?_) (fun q80 => ?_)
                · skip
                  replace q80 := bI_t q80
                  rw [if_pos q80] at g_read
                  have hcw : tW ks ns n (p + 4 * i + 1 + 1) 10 12 = true := by rw [tW_cmp, q71, q80]; rfl
                  have hp2 := (tW_iff.mp hcw).1
                  refine x_aload_n C d_Mo_readsConditions_92 rfl rfl ?_
                  refine x_callV C l_Mo_71 v_Mo_readsOperand d_Mo_readsConditions_93 (m_Mo_readsOperand (p := p + 4 * i + 1 + 1 + 1) fm hlen g_kinds g_numbers g_pending g_read fki fnu hn60 (by omega)) fm rfl (by rfl) (by rfl) (by decide) (by decide) (Nat.le_of_ble_eq_true rfl) ?_
                  rintro v17 h17 ⟨rfl, fs17, fm', mu17, g17_read, kp17⟩
                  have fki := kp17.get fki (nm_c (by first | assumption | exact Ne.symm (by assumption) | exact x_ne fki fm (by simp)) nm_n)
                  have fnu := kp17.get fnu (nm_c (by first | assumption | exact Ne.symm (by assumption) | exact x_ne fnu fm (by simp)) nm_n)
                  have kp := kp.call kp17 (kc_c (Or.inl (by simp)) kc_n)
                  have fm := fm'
                  have hlen := mu17.1.trans hlen
                  have g_kinds := mu17.get g_kinds (by decide)
                  have g_numbers := mu17.get g_numbers (by decide)
                  have g_pending := mu17.get g_pending (by decide)
                  have g_newFrom := mu17.get g_newFrom (by decide)
                  have g_newTo := mu17.get g_newTo (by decide)
                  have g_read := g17_read
                  have mu := mu.tr mu17 (by decide)
                  refine x_if_ne (tgt := 101) C d_Mo_readsConditions_96 rfl (fun q96 => ?_) (fun q96 => ?_)
                  · skip
                    replace q96 := bI_t q96
                    rw [if_pos q96] at g_read
                    have hp3 := tOp_lt q96
                    have hcd : tCond ks ns n (p + 4 * i + 1) = true := tCond_iff.mpr ⟨q62, hcw, q96⟩
                    refine x_aload_n C d_Mo_readsConditions_101 rfl rfl ?_
                    refine x_aload_n C d_Mo_readsConditions_102 rfl rfl ?_
                    refine x_get C k_Mo f_Mo_52 d_Mo_readsConditions_103 fm g_read ?_
                    refine x_put C k_Mo f_Mo_65 d_Mo_readsConditions_106 fm (by rfl) (by rfl) (by rfl) (by omega) rfl (fun h18 u18 => ?_)
                    have fki := xUp_ne u18 fki (by first | assumption | exact Ne.symm (by assumption) | exact x_ne fki fm (by simp))
                    have fnu := xUp_ne u18 fnu (by first | assumption | exact Ne.symm (by assumption) | exact x_ne fnu fm (by simp))
                    have fm := xUp_at u18
                    have kp := kp.up u18 (by simp)
                    have g_kinds := gs_ne fm g_kinds (by decide)
                    have g_numbers := gs_ne fm g_numbers (by decide)
                    have g_pending := gs_ne fm g_pending (by decide)
                    have g_newFrom := gs_ne fm g_newFrom (by decide)
                    have g_read := gs_ne fm g_read (by decide)
                    have g_newTo := gs_eq fm hlen (by decide)
                    have mu := mu.setF fm (by decide)
                    have hlen := gs_len fm hlen
                    refine x_iinc (v := nI (i + 1)) (k0 := 0) (lv' := [(1, _), (0, _)]) C d_Mo_readsConditions_109 (by rfl) (nI_1 i) (by decide) (by rfl) ?_
                    refine x_goto (tgt := 37) C d_Mo_readsConditions_112 rfl ?_
                    refine ih (i + 1) _ _ (by omega) (by omega) fm mu fki fnu kp (by rw [if_neg (by omega), g_read]; rfl) g_newFrom (by rw [g_newTo]; rfl) (by omega) (fun z => absurd z (by omega)) ?_
                    rw [if_neg (by omega), hT, show 8 - i = (8 - (i + 1)) + 1 by omega, tConds, if_pos hW, if_pos hcd, Option.map_map, show p + 4 * i + 4 = p + 4 * (i + 1) by omega]
                    cases tConds ks ns n (8 - (i + 1)) 9 (p + 4 * (i + 1)) with
                    | none => rfl
                    | some z => exact congrArg some (by show z + 1 + i = z + (i + 1); omega)
                  · skip
                    replace q96 := bI_f q96
                    refine x_iconst (v := 0) C d_Mo_readsConditions_99 (by decide) ?_
                    refine x_zret C d_Mo_readsConditions_100 (by rfl) ?_
                    refine ⟨_, fm, mu, kp, Or.inl ⟨?_, rfl⟩⟩
                    have hcd : tCond ks ns n (p + 4 * i + 1) = false := by
                      unfold tCond
                      first | (rw [q62]; rfl) | (rw [tW_cmp, q71, q80, q89]; simp; done) | (rw [q96]; simp; done)
                    rw [hT, show 8 - i = (8 - (i + 1)) + 1 by omega, tConds, if_pos hW, if_neg (by rw [hcd]; decide)]
                    rfl
                · skip
                  replace q80 := bI_f q80
                  rw [if_neg (by rw [q80]; decide)] at g_read
                  refine x_aload_n C d_Mo_readsConditions_83 rfl rfl ?_
                  refine x_bipush (v := 12) C d_Mo_readsConditions_84 (by decide) ?_
                  refine x_callV C l_Mo_68 v_Mo_skips d_Mo_readsConditions_86 (m_Mo_skips (p := p + 4 * i + 1 + 1) fm hlen g_kinds g_numbers g_pending g_read fki fnu hn60 (by omega) 12) fm rfl (by rfl) (by rfl) (by decide) (by decide) (Nat.le_of_ble_eq_true rfl) ?_
                  rintro v19 h19 ⟨rfl, fs19, fm', mu19, g19_read, kp19⟩
                  have fki := kp19.get fki (nm_c (by first | assumption | exact Ne.symm (by assumption) | exact x_ne fki fm (by simp)) nm_n)
                  have fnu := kp19.get fnu (nm_c (by first | assumption | exact Ne.symm (by assumption) | exact x_ne fnu fm (by simp)) nm_n)
                  have kp := kp.call kp19 (kc_c (Or.inl (by simp)) kc_n)
                  have fm := fm'
                  have hlen := mu19.1.trans hlen
                  have g_kinds := mu19.get g_kinds (by decide)
                  have g_numbers := mu19.get g_numbers (by decide)
                  have g_pending := mu19.get g_pending (by decide)
                  have g_newFrom := mu19.get g_newFrom (by decide)
                  have g_newTo := mu19.get g_newTo (by decide)
                  have g_read := g19_read
                  have mu := mu.tr mu19 (by decide)
                  refine x_if_eq (tgt := 99) C d_Mo_readsConditions_89 rfl (fun q89 => ?_) (fun q89 => ?_)
                  · skip
                    replace q89 := bI_f q89
                    refine x_iconst (v := 0) C d_Mo_readsConditions_99 (by decide) ?_
                    refine x_zret C d_Mo_readsConditions_100 (by rfl) ?_
                    refine ⟨_, fm, mu, kp, Or.inl ⟨?_, rfl⟩⟩
                    have hcd : tCond ks ns n (p + 4 * i + 1) = false := by
                      unfold tCond
                      first | (rw [q62]; rfl) | (rw [tW_cmp, q71, q80, q89]; simp; done) | (rw [q96]; simp; done)
                    rw [hT, show 8 - i = (8 - (i + 1)) + 1 by omega, tConds, if_pos hW, if_neg (by rw [hcd]; decide)]
                    rfl
                  · skip
                    replace q89 := bI_t q89
                    rw [if_pos q89] at g_read
                    have hcw : tW ks ns n (p + 4 * i + 1 + 1) 10 12 = true := by rw [tW_cmp, q71, q80, q89]; rfl
                    have hp2 := (tW_iff.mp hcw).1
                    refine x_aload_n C d_Mo_readsConditions_92 rfl rfl ?_
                    refine x_callV C l_Mo_71 v_Mo_readsOperand d_Mo_readsConditions_93 (m_Mo_readsOperand (p := p + 4 * i + 1 + 1 + 1) fm hlen g_kinds g_numbers g_pending g_read fki fnu hn60 (by omega)) fm rfl (by rfl) (by rfl) (by decide) (by decide) (Nat.le_of_ble_eq_true rfl) ?_
                    rintro v20 h20 ⟨rfl, fs20, fm', mu20, g20_read, kp20⟩
                    have fki := kp20.get fki (nm_c (by first | assumption | exact Ne.symm (by assumption) | exact x_ne fki fm (by simp)) nm_n)
                    have fnu := kp20.get fnu (nm_c (by first | assumption | exact Ne.symm (by assumption) | exact x_ne fnu fm (by simp)) nm_n)
                    have kp := kp.call kp20 (kc_c (Or.inl (by simp)) kc_n)
                    have fm := fm'
                    have hlen := mu20.1.trans hlen
                    have g_kinds := mu20.get g_kinds (by decide)
                    have g_numbers := mu20.get g_numbers (by decide)
                    have g_pending := mu20.get g_pending (by decide)
                    have g_newFrom := mu20.get g_newFrom (by decide)
                    have g_newTo := mu20.get g_newTo (by decide)
                    have g_read := g20_read
                    have mu := mu.tr mu20 (by decide)
                    refine x_if_ne (tgt := 101) C d_Mo_readsConditions_96 rfl (fun q96 => ?_) (fun q96 => ?_)
                    · skip
                      replace q96 := bI_t q96
                      rw [if_pos q96] at g_read
                      have hp3 := tOp_lt q96
                      have hcd : tCond ks ns n (p + 4 * i + 1) = true := tCond_iff.mpr ⟨q62, hcw, q96⟩
                      refine x_aload_n C d_Mo_readsConditions_101 rfl rfl ?_
                      refine x_aload_n C d_Mo_readsConditions_102 rfl rfl ?_
                      refine x_get C k_Mo f_Mo_52 d_Mo_readsConditions_103 fm g_read ?_
                      refine x_put C k_Mo f_Mo_65 d_Mo_readsConditions_106 fm (by rfl) (by rfl) (by rfl) (by omega) rfl (fun h21 u21 => ?_)
                      have fki := xUp_ne u21 fki (by first | assumption | exact Ne.symm (by assumption) | exact x_ne fki fm (by simp))
                      have fnu := xUp_ne u21 fnu (by first | assumption | exact Ne.symm (by assumption) | exact x_ne fnu fm (by simp))
                      have fm := xUp_at u21
                      have kp := kp.up u21 (by simp)
                      have g_kinds := gs_ne fm g_kinds (by decide)
                      have g_numbers := gs_ne fm g_numbers (by decide)
                      have g_pending := gs_ne fm g_pending (by decide)
                      have g_newFrom := gs_ne fm g_newFrom (by decide)
                      have g_read := gs_ne fm g_read (by decide)
                      have g_newTo := gs_eq fm hlen (by decide)
                      have mu := mu.setF fm (by decide)
                      have hlen := gs_len fm hlen
                      refine x_iinc (v := nI (i + 1)) (k0 := 0) (lv' := [(1, _), (0, _)]) C d_Mo_readsConditions_109 (by rfl) (nI_1 i) (by decide) (by rfl) ?_
                      refine x_goto (tgt := 37) C d_Mo_readsConditions_112 rfl ?_
                      refine ih (i + 1) _ _ (by omega) (by omega) fm mu fki fnu kp (by rw [if_neg (by omega), g_read]; rfl) g_newFrom (by rw [g_newTo]; rfl) (by omega) (fun z => absurd z (by omega)) ?_
                      rw [if_neg (by omega), hT, show 8 - i = (8 - (i + 1)) + 1 by omega, tConds, if_pos hW, if_pos hcd, Option.map_map, show p + 4 * i + 4 = p + 4 * (i + 1) by omega]
                      cases tConds ks ns n (8 - (i + 1)) 9 (p + 4 * (i + 1)) with
                      | none => rfl
                      | some z => exact congrArg some (by show z + 1 + i = z + (i + 1); omega)
                    · skip
                      replace q96 := bI_f q96
                      refine x_iconst (v := 0) C d_Mo_readsConditions_99 (by decide) ?_
                      refine x_zret C d_Mo_readsConditions_100 (by rfl) ?_
                      refine ⟨_, fm, mu, kp, Or.inl ⟨?_, rfl⟩⟩
                      have hcd : tCond ks ns n (p + 4 * i + 1) = false := by
                        unfold tCond
                        first | (rw [q62]; rfl) | (rw [tW_cmp, q71, q80, q89]; simp; done) | (rw [q96]; simp; done)
                      rw [hT, show 8 - i = (8 - (i + 1)) + 1 by omega, tConds, if_pos hW, if_neg (by rw [hcd]; decide)]
                      rfl
          · skip
            replace q53 := bI_f q53
            rw [if_neg (by rw [q53]; decide)] at g_read
            refine x_iconst (v := 1) C d_Mo_readsConditions_56 (by decide) ?_
            refine x_zret C d_Mo_readsConditions_57 (by rfl) ?_
            refine ⟨_, fm, mu, kp, Or.inr ⟨i, p + 1, ?_, rfl, g_read, g_newFrom, g_newTo, fun _ => rfl, fun z => absurd z hi0, by omega, by omega⟩⟩
            rw [hT, if_neg hi0, show 8 - i = (8 - (i + 1)) + 1 by omega, tConds, if_neg (by rw [← tS_eq, q53]; decide)]
            exact congrArg some (Nat.zero_add i)
  refine x_aload_n C d_Mo_readsConditions_0 rfl rfl ?_
  refine x_aload_n C d_Mo_readsConditions_1 rfl rfl ?_
  refine x_get C k_Mo f_Mo_52 d_Mo_readsConditions_2 fm g_read ?_
  refine x_put C k_Mo f_Mo_62 d_Mo_readsConditions_5 fm (by rfl) (by rfl) (by rfl) (by omega) rfl (fun h22 u22 => ?_)
  have fki := xUp_ne u22 fki (by first | assumption | exact Ne.symm (by assumption) | exact x_ne fki fm (by simp))
  have fnu := xUp_ne u22 fnu (by first | assumption | exact Ne.symm (by assumption) | exact x_ne fnu fm (by simp))
  have fm := xUp_at u22
  have kp := kp.up u22 (by simp)
  have g_kinds := gs_ne fm g_kinds (by decide)
  have g_numbers := gs_ne fm g_numbers (by decide)
  have g_pending := gs_ne fm g_pending (by decide)
  have g_read := gs_ne fm g_read (by decide)
  have g_newFrom := gs_eq fm hlen (by decide)
  have mu := mu.setF fm (by decide)
  have hlen := gs_len fm hlen
  refine x_aload_n C d_Mo_readsConditions_8 rfl rfl ?_
  refine x_aload_n C d_Mo_readsConditions_9 rfl rfl ?_
  refine x_get C k_Mo f_Mo_52 d_Mo_readsConditions_10 fm g_read ?_
  refine x_put C k_Mo f_Mo_65 d_Mo_readsConditions_13 fm (by rfl) (by rfl) (by rfl) (by omega) rfl (fun h23 u23 => ?_)
  have fki := xUp_ne u23 fki (by first | assumption | exact Ne.symm (by assumption) | exact x_ne fki fm (by simp))
  have fnu := xUp_ne u23 fnu (by first | assumption | exact Ne.symm (by assumption) | exact x_ne fnu fm (by simp))
  have fm := xUp_at u23
  have kp := kp.up u23 (by simp)
  have g_kinds := gs_ne fm g_kinds (by decide)
  have g_numbers := gs_ne fm g_numbers (by decide)
  have g_pending := gs_ne fm g_pending (by decide)
  have g_read := gs_ne fm g_read (by decide)
  have g_newFrom := gs_ne fm g_newFrom (by decide)
  have g_newTo := gs_eq fm hlen (by decide)
  have mu := mu.setF fm (by decide)
  have hlen := gs_len fm hlen
  refine x_aload_n C d_Mo_readsConditions_16 rfl rfl ?_
  refine x_bipush (v := 8) C d_Mo_readsConditions_17 (by decide) ?_
  refine x_callV C l_Mo_68 v_Mo_skips d_Mo_readsConditions_19 (m_Mo_skips (p := p) fm hlen g_kinds g_numbers g_pending g_read fki fnu hn60 hp 8) fm rfl (by rfl) (by rfl) (by decide) (by decide) (Nat.le_of_ble_eq_true rfl) ?_
  rintro v24 h24 ⟨rfl, fs24, fm', mu24, g24_read, kp24⟩
  have fki := kp24.get fki (nm_c (by first | assumption | exact Ne.symm (by assumption) | exact x_ne fki fm (by simp)) nm_n)
  have fnu := kp24.get fnu (nm_c (by first | assumption | exact Ne.symm (by assumption) | exact x_ne fnu fm (by simp)) nm_n)
  have kp := kp.call kp24 (kc_c (Or.inl (by simp)) kc_n)
  have fm := fm'
  have hlen := mu24.1.trans hlen
  have g_kinds := mu24.get g_kinds (by decide)
  have g_numbers := mu24.get g_numbers (by decide)
  have g_pending := mu24.get g_pending (by decide)
  have g_newFrom := mu24.get g_newFrom (by decide)
  have g_newTo := mu24.get g_newTo (by decide)
  have g_read := g24_read
  have mu := mu.tr mu24 (by decide)
  refine x_if_ne (tgt := 27) C d_Mo_readsConditions_22 rfl (fun q22 => ?_) (fun q22 => ?_)
  · skip
    replace q22 := bI_t q22
    rw [if_pos q22] at g_read
    refine x_aload_n C d_Mo_readsConditions_27 rfl rfl ?_
    refine x_aload_n C d_Mo_readsConditions_28 rfl rfl ?_
    refine x_get C k_Mo f_Mo_52 d_Mo_readsConditions_29 fm g_read ?_
    refine x_put C k_Mo f_Mo_62 d_Mo_readsConditions_32 fm (by rfl) (by rfl) (by rfl) (by omega) rfl (fun h25 u25 => ?_)
    have fki := xUp_ne u25 fki (by first | assumption | exact Ne.symm (by assumption) | exact x_ne fki fm (by simp))
    have fnu := xUp_ne u25 fnu (by first | assumption | exact Ne.symm (by assumption) | exact x_ne fnu fm (by simp))
    have fm := xUp_at u25
    have kp := kp.up u25 (by simp)
    have g_kinds := gs_ne fm g_kinds (by decide)
    have g_numbers := gs_ne fm g_numbers (by decide)
    have g_pending := gs_ne fm g_pending (by decide)
    have g_newTo := gs_ne fm g_newTo (by decide)
    have g_read := gs_ne fm g_read (by decide)
    have g_newFrom := gs_eq fm hlen (by decide)
    have mu := mu.setF fm (by decide)
    have hlen := gs_len fm hlen
    refine x_iconst (v := 0) C d_Mo_readsConditions_35 (by decide) ?_
    refine x_istore_n (lv' := [(1, _), (0, _)]) C d_Mo_readsConditions_36 rfl (by decide) (by rfl) ?_
    have hpn := (tW_iff.mp (by rw [← tS_eq]; exact q22 : tW ks ns n p 8 8 = true)).1
    exact loop 9 0 _ _ (by omega) (by omega) fm mu fki fnu kp (by rw [g_read]; rfl) g_newFrom g_newTo (by omega) (fun _ => by rw [← tS_eq]; exact q22) (by rw [← htc]; simp)
  · skip
    replace q22 := bI_f q22
    rw [if_neg (by rw [q22]; decide)] at g_read
    refine x_iconst (v := 1) C d_Mo_readsConditions_25 (by decide) ?_
    refine x_zret C d_Mo_readsConditions_26 (by rfl) ?_
    refine ⟨_, fm, mu, kp, Or.inr ⟨0, p, ?_, rfl, g_read, g_newFrom, g_newTo, fun z => absurd z (by omega), fun _ => rfl, by omega, by omega⟩⟩
    rw [← htc, tConds, if_neg (by rw [← tS_eq, q22]; decide)]
set_option maxRecDepth 20000 in
set_option maxHeartbeats 1000000 in
theorem m_Mo_readsList {V : xV} {h : xH} {mki mnu n p : Nat} {ks ns : Nat → Int32} {m : Nat} {fs : List Value} (fm : h m = some (.inr (8, fs))) (hlen : fs.length = 29) (g_kinds : fs[5]? = some (.ref mki)) (g_numbers : fs[6]? = some (.ref mnu)) (g_pending : fs[7]? = some (.int (nI n))) (g_read : fs[23]? = some (.int (nI p))) (fki : h mki = some (xI V 60 ks)) (fnu : h mnu = some (xI V 60 ns)) (hn60 : n ≤ 60) (hp : p ≤ 60) : xM V y_Mo_readsList b_Mo_readsList 3 (some .boolean) 3 [.ref m] h 0 0 (fun v h' => ∃ fs', h' m = some (.inr (8, fs')) ∧ mUp [23] fs fs' ∧ xKeep [m] h h' ∧ ((v = some (.int 0) ∧ tSel ks ns n (tLst ks ns n p) = none) ∨ (v = some (.int 1) ∧ (tLst ks ns n p).1 = true ∧ fs'[23]? = some (.int (nI (tLst ks ns n p).2.2.1)) ∧ (tLst ks ns n p).2.2.1 ≤ 60))) := by
  refine xM_of false (by decide) (fun h => nomatch h) (Nat.le_of_ble_eq_true rfl) (fun K C => ?_)
  show K 0 0 h 0 [(0, .ref m)] []
  have kp : xKeep [m] h h := xKeep.rf
  have mu : mUp [23] fs fs := mUp.rf
  have loop : ∀ mq : Nat, ∀ (i p1 : Nat) (sb : Bool) (h1 : xH) (fs1 : List Value), 60 - (p1 + i) < mq → p1 + i ≤ 60 → h1 m = some (.inr (8, fs1)) → mUp [23] fs fs1 → h1 mki = some (xI V 60 ks) → h1 mnu = some (xI V 60 ns) → xKeep [m] h h1 → fs1[23]? = some (.int (nI (p1 + i))) → (∀ j, j < i → tK ks n (p1 + j) 2 = true) → (sb = true → tLst ks ns n p = (decide (0 < tRun ks n 2 1 p1), tRun ks n 2 1 p1, p1 + tRun ks n 2 1 p1, 6)) → (sb = false → tLst ks ns n p = (decide (0 < tRun ks n 2 8 p1), tRun ks n 2 8 p1, p1 + tRun ks n 2 8 p1, -1)) → K 0 0 h1 27 [(2, .int (nI i)), (1, .int (bI sb)), (0, .ref m)] [] := by
    intro mq
    induction mq with
    | zero => intro i p1 sb h1 fs1 hm hpi fm mu fki fnu kp g_read hrun hl1 hl8; omega
    | succ mq ih =>
      intro i p1 sb h1 fs1 hm hpi fm mu fki fnu kp g_read hrun hl1 hl8
      have hlen := mu.1.trans hlen
      have g_kinds := mu.get g_kinds (by decide)
      have g_numbers := mu.get g_numbers (by decide)
      have g_pending := mu.get g_pending (by decide)
      refine x_aload_n C d_Mo_readsList_27 rfl rfl ?_
      refine x_iconst (v := 2) C d_Mo_readsList_28 (by decide) ?_
      refine x_callV C l_Mo_55 v_Mo_isKind d_Mo_readsList_29 (m_Mo_isKind (p := p1 + i) fm hlen g_kinds g_numbers g_pending g_read fki fnu hn60 hpi 2) fm rfl (by rfl) (by rfl) (by decide) (by decide) (Nat.le_of_ble_eq_true rfl) ?_
      rintro v9 h9 ⟨rfl, rfl⟩
      refine x_if_eq (tgt := 51) C d_Mo_readsList_32 rfl (fun q32 => ?_) (fun q32 => ?_)
      · skip
        replace q32 := bI_f q32
        refine x_iload_n C d_Mo_readsList_51 rfl rfl ?_
        refine x_if_eq (tgt := 68) C d_Mo_readsList_52 rfl (fun q52 => ?_) (fun q52 => ?_)
        · skip
          replace q52 := bI_f q52
          refine x_iload_n C d_Mo_readsList_68 rfl rfl ?_
          refine x_iconst (v := 1) C d_Mo_readsList_69 (by decide) ?_
          refine x_icmp_lt (tgt := 83) C d_Mo_readsList_70 rfl (fun q70 => ?_) (fun q70 => ?_)
          · skip
            have hi1 : i < 1 := llt_of (b := 1) q70 (by omega)
            refine x_iconst (v := 0) C d_Mo_readsList_83 (by decide) ?_
            refine x_zret C d_Mo_readsList_84 (by rfl) ?_
            first | exact ⟨_, fm, mu, kp, Or.inl ⟨rfl, tl_no (hl1 q52) hrun q32 (by omega)⟩⟩ | exact ⟨_, fm, mu, kp, Or.inr ⟨rfl, (tl_yes (hl1 q52) hrun q32 (by omega) (by omega)).1, by rw [(tl_yes (hl1 q52) hrun q32 (by omega) (by omega)).2]; exact g_read, by rw [(tl_yes (hl1 q52) hrun q32 (by omega) (by omega)).2]; omega⟩⟩ | exact ⟨_, fm, mu, kp, Or.inl ⟨rfl, tl_no (hl8 q52) hrun q32 (by omega)⟩⟩ | exact ⟨_, fm, mu, kp, Or.inr ⟨rfl, (tl_yes (hl8 q52) hrun q32 (by omega) (by omega)).1, by rw [(tl_yes (hl8 q52) hrun q32 (by omega) (by omega)).2]; exact g_read, by rw [(tl_yes (hl8 q52) hrun q32 (by omega) (by omega)).2]; omega⟩⟩
          · skip
            have hi1 : 1 ≤ i := lge_of (b := 1) q70 (by omega)
            refine x_iload_n C d_Mo_readsList_73 rfl rfl ?_
            refine x_bipush (v := 8) C d_Mo_readsList_74 (by decide) ?_
            refine x_icmp_gt (tgt := 83) C d_Mo_readsList_76 rfl (fun q76 => ?_) (fun q76 => ?_)
            · skip
              have hi2 : 8 < i := llt_of (a := 8) q76 (by omega)
              refine x_iconst (v := 0) C d_Mo_readsList_83 (by decide) ?_
              refine x_zret C d_Mo_readsList_84 (by rfl) ?_
              first | exact ⟨_, fm, mu, kp, Or.inl ⟨rfl, tl_no (hl1 q52) hrun q32 (by omega)⟩⟩ | exact ⟨_, fm, mu, kp, Or.inr ⟨rfl, (tl_yes (hl1 q52) hrun q32 (by omega) (by omega)).1, by rw [(tl_yes (hl1 q52) hrun q32 (by omega) (by omega)).2]; exact g_read, by rw [(tl_yes (hl1 q52) hrun q32 (by omega) (by omega)).2]; omega⟩⟩ | exact ⟨_, fm, mu, kp, Or.inl ⟨rfl, tl_no (hl8 q52) hrun q32 (by omega)⟩⟩ | exact ⟨_, fm, mu, kp, Or.inr ⟨rfl, (tl_yes (hl8 q52) hrun q32 (by omega) (by omega)).1, by rw [(tl_yes (hl8 q52) hrun q32 (by omega) (by omega)).2]; exact g_read, by rw [(tl_yes (hl8 q52) hrun q32 (by omega) (by omega)).2]; omega⟩⟩
            · skip
              have hi2 : i ≤ 8 := lge_of (a := 8) q76 (by omega)
              refine x_iconst (v := 1) C d_Mo_readsList_79 (by decide) ?_
              refine x_goto (tgt := 84) C d_Mo_readsList_80 rfl ?_
              refine x_zret C d_Mo_readsList_84 (by rfl) ?_
              first | exact ⟨_, fm, mu, kp, Or.inl ⟨rfl, tl_no (hl1 q52) hrun q32 (by omega)⟩⟩ | exact ⟨_, fm, mu, kp, Or.inr ⟨rfl, (tl_yes (hl1 q52) hrun q32 (by omega) (by omega)).1, by rw [(tl_yes (hl1 q52) hrun q32 (by omega) (by omega)).2]; exact g_read, by rw [(tl_yes (hl1 q52) hrun q32 (by omega) (by omega)).2]; omega⟩⟩ | exact ⟨_, fm, mu, kp, Or.inl ⟨rfl, tl_no (hl8 q52) hrun q32 (by omega)⟩⟩ | exact ⟨_, fm, mu, kp, Or.inr ⟨rfl, (tl_yes (hl8 q52) hrun q32 (by omega) (by omega)).1, by rw [(tl_yes (hl8 q52) hrun q32 (by omega) (by omega)).2]; exact g_read, by rw [(tl_yes (hl8 q52) hrun q32 (by omega) (by omega)).2]; omega⟩⟩
        · skip
          replace q52 := bI_t q52
          refine x_iload_n C d_Mo_readsList_55 rfl rfl ?_
          refine x_iconst (v := 1) C d_Mo_readsList_56 (by decide) ?_
          refine x_icmp_ne (tgt := 64) C d_Mo_readsList_57 rfl (fun q57 => ?_) (fun q57 => ?_)
          · skip
            have hi1 : ¬ i = 1 := fun z => q57 (by rw [z]; rfl)
            refine x_iconst (v := 0) C d_Mo_readsList_64 (by decide) ?_
            refine x_goto (tgt := 84) C d_Mo_readsList_65 rfl ?_
            refine x_zret C d_Mo_readsList_84 (by rfl) ?_
            first | exact ⟨_, fm, mu, kp, Or.inl ⟨rfl, tl_no (hl1 q52) hrun q32 (by omega)⟩⟩ | exact ⟨_, fm, mu, kp, Or.inr ⟨rfl, (tl_yes (hl1 q52) hrun q32 (by omega) (by omega)).1, by rw [(tl_yes (hl1 q52) hrun q32 (by omega) (by omega)).2]; exact g_read, by rw [(tl_yes (hl1 q52) hrun q32 (by omega) (by omega)).2]; omega⟩⟩ | exact ⟨_, fm, mu, kp, Or.inl ⟨rfl, tl_no (hl8 q52) hrun q32 (by omega)⟩⟩ | exact ⟨_, fm, mu, kp, Or.inr ⟨rfl, (tl_yes (hl8 q52) hrun q32 (by omega) (by omega)).1, by rw [(tl_yes (hl8 q52) hrun q32 (by omega) (by omega)).2]; exact g_read, by rw [(tl_yes (hl8 q52) hrun q32 (by omega) (by omega)).2]; omega⟩⟩
          · skip
            have hi1 : i = 1 := (nI_eq (b := 1) (by omega) (by omega)).mp q57
            refine x_iconst (v := 1) C d_Mo_readsList_60 (by decide) ?_
            refine x_goto (tgt := 84) C d_Mo_readsList_61 rfl ?_
            refine x_zret C d_Mo_readsList_84 (by rfl) ?_
            first | exact ⟨_, fm, mu, kp, Or.inl ⟨rfl, tl_no (hl1 q52) hrun q32 (by omega)⟩⟩ | exact ⟨_, fm, mu, kp, Or.inr ⟨rfl, (tl_yes (hl1 q52) hrun q32 (by omega) (by omega)).1, by rw [(tl_yes (hl1 q52) hrun q32 (by omega) (by omega)).2]; exact g_read, by rw [(tl_yes (hl1 q52) hrun q32 (by omega) (by omega)).2]; omega⟩⟩ | exact ⟨_, fm, mu, kp, Or.inl ⟨rfl, tl_no (hl8 q52) hrun q32 (by omega)⟩⟩ | exact ⟨_, fm, mu, kp, Or.inr ⟨rfl, (tl_yes (hl8 q52) hrun q32 (by omega) (by omega)).1, by rw [(tl_yes (hl8 q52) hrun q32 (by omega) (by omega)).2]; exact g_read, by rw [(tl_yes (hl8 q52) hrun q32 (by omega) (by omega)).2]; omega⟩⟩
      · skip
        replace q32 := bI_t q32
        have hpn := (tK_iff.mp q32).1
        refine x_aload_n C d_Mo_readsList_35 rfl rfl ?_
        refine x_dup C d_Mo_readsList_36 rfl ?_
        refine x_get C k_Mo f_Mo_52 d_Mo_readsList_37 fm g_read ?_
        refine x_iconst (v := 1) C d_Mo_readsList_40 (by decide) ?_
        refine x_iadd C d_Mo_readsList_41 ?_
        refine x_put C k_Mo f_Mo_52 d_Mo_readsList_42 fm (by rfl) (by rfl) (by rfl) (by omega) rfl (fun h1 u1 => ?_)
        have fki := xUp_ne u1 fki (by first | assumption | exact Ne.symm (by assumption) | exact x_ne fki fm (by simp))
        have fnu := xUp_ne u1 fnu (by first | assumption | exact Ne.symm (by assumption) | exact x_ne fnu fm (by simp))
        have fm := xUp_at u1
        have kp := kp.up u1 (by simp)
        have g_kinds := gs_ne fm g_kinds (by decide)
        have g_numbers := gs_ne fm g_numbers (by decide)
        have g_pending := gs_ne fm g_pending (by decide)
        have g_read := gs_eq fm hlen (by decide)
        have mu := mu.setF fm (by decide)
        have hlen := gs_len fm hlen
        refine x_iinc (v := nI (i + 1)) (k0 := 0) (lv' := [(2, _), (1, _), (0, _)]) C d_Mo_readsList_45 (by rfl) (nI_1 i) (by decide) (by rfl) ?_
        refine x_goto (tgt := 27) C d_Mo_readsList_48 rfl ?_
        exact ih (i + 1) p1 sb _ _ (by omega) (by omega) fm mu fki fnu kp (by rw [g_read, nI_1]; rfl) (lt_s hrun q32) hl1 hl8
  refine x_aload_n C d_Mo_readsList_0 rfl rfl ?_
  refine x_iconst (v := 4) C d_Mo_readsList_1 (by decide) ?_
  refine x_callV C l_Mo_68 v_Mo_skips d_Mo_readsList_2 (m_Mo_skips (p := p) fm hlen g_kinds g_numbers g_pending g_read fki fnu hn60 hp 4) fm rfl (by rfl) (by rfl) (by decide) (by decide) (Nat.le_of_ble_eq_true rfl) ?_
  rintro v2 h2 ⟨rfl, fs2, fm', mu2, g2_read, kp2⟩
  have fki := kp2.get fki (nm_c (by first | assumption | exact Ne.symm (by assumption) | exact x_ne fki fm (by simp)) nm_n)
  have fnu := kp2.get fnu (nm_c (by first | assumption | exact Ne.symm (by assumption) | exact x_ne fnu fm (by simp)) nm_n)
  have kp := kp.call kp2 (kc_c (Or.inl (by simp)) kc_n)
  have fm := fm'
  have hlen := mu2.1.trans hlen
  have g_kinds := mu2.get g_kinds (by decide)
  have g_numbers := mu2.get g_numbers (by decide)
  have g_pending := mu2.get g_pending (by decide)
  have g_read := g2_read
  have mu := mu.tr mu2 (by decide)
  refine x_if_ne (tgt := 16) C d_Mo_readsList_5 rfl (fun q5 => ?_) (fun q5 => ?_)
  · skip
    replace q5 := bI_t q5
    rw [if_pos q5] at g_read
    have hpn := (tW_iff.mp (by rw [← tS_eq]; exact q5 : tW ks ns n p 4 4 = true)).1
    refine x_iconst (v := 1) C d_Mo_readsList_16 (by decide) ?_
    refine x_zret C d_Mo_readsList_17 (by rfl) ?_
    have hL : tLst ks ns n p = (true, 0, p + 1, 4) ∨ tLst ks ns n p = (true, 0, p + 1, 5) := by
      first | exact Or.inl (by rw [tS_eq] at q5; unfold tLst; rw [if_pos q5]) | exact Or.inr (by rw [tS_eq] at q5 q13; unfold tLst; rw [if_neg (by rw [q5]; decide), if_pos q13])
    rcases hL with hL | hL <;> (rw [hL]; exact ⟨_, fm, mu, kp, Or.inr ⟨rfl, rfl, g_read, (show p + 1 ≤ 60 by omega)⟩⟩)
  · skip
    replace q5 := bI_f q5
    rw [if_neg (by rw [q5]; decide)] at g_read
    refine x_aload_n C d_Mo_readsList_8 rfl rfl ?_
    refine x_iconst (v := 5) C d_Mo_readsList_9 (by decide) ?_
    refine x_callV C l_Mo_68 v_Mo_skips d_Mo_readsList_10 (m_Mo_skips (p := p) fm hlen g_kinds g_numbers g_pending g_read fki fnu hn60 hp 5) fm rfl (by rfl) (by rfl) (by decide) (by decide) (Nat.le_of_ble_eq_true rfl) ?_
    rintro v3 h3 ⟨rfl, fs3, fm', mu3, g3_read, kp3⟩
    have fki := kp3.get fki (nm_c (by first | assumption | exact Ne.symm (by assumption) | exact x_ne fki fm (by simp)) nm_n)
    have fnu := kp3.get fnu (nm_c (by first | assumption | exact Ne.symm (by assumption) | exact x_ne fnu fm (by simp)) nm_n)
    have kp := kp.call kp3 (kc_c (Or.inl (by simp)) kc_n)
    have fm := fm'
    have hlen := mu3.1.trans hlen
    have g_kinds := mu3.get g_kinds (by decide)
    have g_numbers := mu3.get g_numbers (by decide)
    have g_pending := mu3.get g_pending (by decide)
    have g_read := g3_read
    have mu := mu.tr mu3 (by decide)
    refine x_if_eq (tgt := 18) C d_Mo_readsList_13 rfl (fun q13 => ?_) (fun q13 => ?_)
    · skip
      replace q13 := bI_f q13
      rw [if_neg (by rw [q13]; decide)] at g_read
      refine x_aload_n C d_Mo_readsList_18 rfl rfl ?_
      refine x_bipush (v := 6) C d_Mo_readsList_19 (by decide) ?_
      refine x_callV C l_Mo_68 v_Mo_skips d_Mo_readsList_21 (m_Mo_skips (p := p) fm hlen g_kinds g_numbers g_pending g_read fki fnu hn60 hp 6) fm rfl (by rfl) (by rfl) (by decide) (by decide) (Nat.le_of_ble_eq_true rfl) ?_
      rintro v4 h4 ⟨rfl, fs4, fm', mu4, g4_read, kp4⟩
      have fki := kp4.get fki (nm_c (by first | assumption | exact Ne.symm (by assumption) | exact x_ne fki fm (by simp)) nm_n)
      have fnu := kp4.get fnu (nm_c (by first | assumption | exact Ne.symm (by assumption) | exact x_ne fnu fm (by simp)) nm_n)
      have kp := kp.call kp4 (kc_c (Or.inl (by simp)) kc_n)
      have fm := fm'
      have hlen := mu4.1.trans hlen
      have g_kinds := mu4.get g_kinds (by decide)
      have g_numbers := mu4.get g_numbers (by decide)
      have g_pending := mu4.get g_pending (by decide)
      have g_read := g4_read
      have mu := mu.tr mu4 (by decide)
      refine x_istore_n (lv' := [(1, _), (0, _)]) C d_Mo_readsList_24 rfl (by decide) (by rfl) ?_
      refine x_iconst (v := 0) C d_Mo_readsList_25 (by decide) ?_
      refine x_istore_n (lv' := [(2, _), (1, _), (0, _)]) C d_Mo_readsList_26 rfl (by decide) (by rfl) ?_
      have hp1 : (if tS ks ns n p 6 = true then p + 1 else p) ≤ 60 := by rw [tS_eq]; exact tW_le hp hn60
      refine loop 61 0 (if tS ks ns n p 6 = true then p + 1 else p) (tS ks ns n p 6) _ _ (by omega) (by omega) fm mu fki fnu kp g_read lt_0 (fun z => ?_) (fun z => ?_)
      · rw [if_pos z]; rw [tS_eq] at z q5 q13; unfold tLst; rw [if_neg (by rw [q5]; decide), if_neg (by rw [q13]; decide), if_pos z]
      · rw [if_neg (by rw [z]; decide)]; rw [tS_eq] at z q5 q13; unfold tLst; rw [if_neg (by rw [q5]; decide), if_neg (by rw [q13]; decide), if_neg (by rw [z]; decide)]
    · skip
      replace q13 := bI_t q13
      rw [if_pos q13] at g_read
      have hpn := (tW_iff.mp (by rw [← tS_eq]; exact q13 : tW ks ns n p 5 5 = true)).1
      refine x_iconst (v := 1) C d_Mo_readsList_16 (by decide) ?_
      refine x_zret C d_Mo_readsList_17 (by rfl) ?_
      have hL : tLst ks ns n p = (true, 0, p + 1, 4) ∨ tLst ks ns n p = (true, 0, p + 1, 5) := by
        first | exact Or.inl (by rw [tS_eq] at q5; unfold tLst; rw [if_pos q5]) | exact Or.inr (by rw [tS_eq] at q5 q13; unfold tLst; rw [if_neg (by rw [q5]; decide), if_pos q13])
      rcases hL with hL | hL <;> (rw [hL]; exact ⟨_, fm, mu, kp, Or.inr ⟨rfl, rfl, g_read, (show p + 1 ≤ 60 by omega)⟩⟩)
set_option maxRecDepth 20000 in
set_option maxHeartbeats 1000000 in
theorem m_Mo_readsSelect {V : xV} {h : xH} {mki mnu n p : Nat} {ks ns : Nat → Int32} {m : Nat} {fs : List Value} (fm : h m = some (.inr (8, fs))) (hlen : fs.length = 29) (g_kinds : fs[5]? = some (.ref mki)) (g_numbers : fs[6]? = some (.ref mnu)) (g_pending : fs[7]? = some (.int (nI n))) (g_read : fs[23]? = some (.int (nI p))) (fki : h mki = some (xI V 60 ks)) (fnu : h mnu = some (xI V 60 ns)) (hn60 : n ≤ 60) (hp : p ≤ 60) {ok : Bool} {r Q : Nat} {ls : Int32} (hL : tLst ks ns n p = (ok, r, Q, ls)) : xM V y_Mo_readsSelect b_Mo_readsSelect 1 (some .boolean) 4 [.ref m] h 0 0 (fun v h' => ∃ fs', h' m = some (.inr (8, fs')) ∧ mUp [23, 26, 27, 24, 25, 28] fs fs' ∧ xKeep [m] h h' ∧ ((v = some (.int 0) ∧ tSel ks ns n (tLst ks ns n p) = none) ∨ ∃ k fr, v = some (.int 1) ∧ ok = true ∧ (tW ks ns n Q 7 7 = true ∧ tK ks n (Q + 1) 1 = true ∧ ¬ ns (Q + 1) = -1) ∧ tConds ks ns n 8 8 (tB ks n Q) = some k ∧ fs'[23]? = some (.int (nI (tEnd ks ns n (tB ks n Q + 4 * k)))) ∧ fs'[24]? = some (.int (ns (Q + 1))) ∧ fs'[25]? = some (.int (tT ks ns n (Q + 2))) ∧ fs'[28]? = some (.int (bI (tW ks ns n (tB ks n Q + 4 * k) 13 13))) ∧ fs'[26]? = some (.int (nI fr)) ∧ fs'[27]? = some (.int (nI (tB ks n Q + 4 * k))) ∧ mFT fr (tB ks n Q + 4 * k) (tB ks n Q) k ∧ tEnd ks ns n (tB ks n Q + 4 * k) ≤ 60)) := by
  refine xM_of false (by decide) (fun h => nomatch h) (Nat.le_of_ble_eq_true rfl) (fun K C => ?_)
  show K 0 0 h 0 [(0, .ref m)] []
  have kp : xKeep [m] h h := xKeep.rf
  have mu : mUp [23, 26, 27, 24, 25, 28] fs fs := mUp.rf
  refine x_aload_n C d_Mo_readsSelect_0 rfl rfl ?_
  refine x_callV C l_Mo_75 v_Mo_readsList d_Mo_readsSelect_1 (m_Mo_readsList (p := p) fm hlen g_kinds g_numbers g_pending g_read fki fnu hn60 hp) fm rfl (by rfl) (by rfl) (by decide) (by decide) (Nat.le_of_ble_eq_true rfl) ?_
  rintro v1 h1 ⟨fs1, fm', mu1, kp1, (⟨rfl, hno⟩ | ⟨rfl, hok, g1_read, hq6⟩)⟩
  · skip
    have fki := kp1.get fki (nm_c (by first | assumption | exact Ne.symm (by assumption) | exact x_ne fki fm (by simp)) nm_n)
    have fnu := kp1.get fnu (nm_c (by first | assumption | exact Ne.symm (by assumption) | exact x_ne fnu fm (by simp)) nm_n)
    have kp := kp.call kp1 (kc_c (Or.inl (by simp)) kc_n)
    have fm := fm'
    have hlen := mu1.1.trans hlen
    have g_kinds := mu1.get g_kinds (by decide)
    have g_numbers := mu1.get g_numbers (by decide)
    have g_pending := mu1.get g_pending (by decide)
    have mu := mu.tr mu1 (by decide)
    refine x_if_eq (tgt := 16) C d_Mo_readsSelect_4 rfl (fun q4 => ?_) (fun q4 => ?_)
    · skip
      refine x_iconst (v := 0) C d_Mo_readsSelect_16 (by decide) ?_
      refine x_zret C d_Mo_readsSelect_17 (by rfl) ?_
      first | exact ⟨_, fm, mu, kp, Or.inl ⟨rfl, hno⟩⟩ | exact ⟨_, fm, mu, kp, Or.inl ⟨rfl, ts_none hL (Or.inl (fun z => by have y := z.1; rw [← tS_eq, q13] at y; cases y))⟩⟩
    · skip
      exact absurd q4 (by decide)
  · skip
    have fki := kp1.get fki (nm_c (by first | assumption | exact Ne.symm (by assumption) | exact x_ne fki fm (by simp)) nm_n)
    have fnu := kp1.get fnu (nm_c (by first | assumption | exact Ne.symm (by assumption) | exact x_ne fnu fm (by simp)) nm_n)
    have kp := kp.call kp1 (kc_c (Or.inl (by simp)) kc_n)
    have fm := fm'
    have hlen := mu1.1.trans hlen
    have g_kinds := mu1.get g_kinds (by decide)
    have g_numbers := mu1.get g_numbers (by decide)
    have g_pending := mu1.get g_pending (by decide)
    have g_read := g1_read
    have mu := mu.tr mu1 (by decide)
    rw [hL] at hok g_read hq6
    dsimp only at hok g_read hq6
    refine x_if_eq (tgt := 16) C d_Mo_readsSelect_4 rfl (fun q4 => ?_) (fun q4 => ?_)
    · skip
      exact absurd q4 (by decide)
    · skip
      refine x_aload_n C d_Mo_readsSelect_7 rfl rfl ?_
      refine x_bipush (v := 7) C d_Mo_readsSelect_8 (by decide) ?_
      refine x_callV C l_Mo_68 v_Mo_skips d_Mo_readsSelect_10 (m_Mo_skips (p := Q) fm hlen g_kinds g_numbers g_pending g_read fki fnu hn60 hq6 7) fm rfl (by rfl) (by rfl) (by decide) (by decide) (Nat.le_of_ble_eq_true rfl) ?_
      rintro v2 h2 ⟨rfl, fs2, fm', mu2, g2_read, kp2⟩
      have fki := kp2.get fki (nm_c (by first | assumption | exact Ne.symm (by assumption) | exact x_ne fki fm (by simp)) nm_n)
      have fnu := kp2.get fnu (nm_c (by first | assumption | exact Ne.symm (by assumption) | exact x_ne fnu fm (by simp)) nm_n)
      have kp := kp.call kp2 (kc_c (Or.inl (by simp)) kc_n)
      have fm := fm'
      have hlen := mu2.1.trans hlen
      have g_kinds := mu2.get g_kinds (by decide)
      have g_numbers := mu2.get g_numbers (by decide)
      have g_pending := mu2.get g_pending (by decide)
      have g_read := g2_read
      have mu := mu.tr mu2 (by decide)
      refine x_if_ne (tgt := 18) C d_Mo_readsSelect_13 rfl (fun q13 => ?_) (fun q13 => ?_)
      · skip
        replace q13 := bI_t q13
        rw [if_pos q13] at g_read
        have hW7 : tW ks ns n Q 7 7 = true := by rw [← tS_eq]; exact q13
        have hQn := (tW_iff.mp hW7).1
        refine x_aload_n C d_Mo_readsSelect_18 rfl rfl ?_
        refine x_aload_n C d_Mo_readsSelect_19 rfl rfl ?_
        refine x_callV C l_Mo_78 v_Mo_readsTable d_Mo_readsSelect_20 (m_Mo_readsTable (p := Q + 1) fm hlen g_kinds g_numbers g_pending g_read fki fnu hn60 (by omega)) fm rfl (by rfl) (by rfl) (by decide) (by decide) (Nat.le_of_ble_eq_true rfl) ?_
        rintro v3 h3 ⟨rfl, fs3, fm', mu3, g3_read, kp3⟩
        have fki := kp3.get fki (nm_c (by first | assumption | exact Ne.symm (by assumption) | exact x_ne fki fm (by simp)) nm_n)
        have fnu := kp3.get fnu (nm_c (by first | assumption | exact Ne.symm (by assumption) | exact x_ne fnu fm (by simp)) nm_n)
        have kp := kp.call kp3 (kc_c (Or.inl (by simp)) kc_n)
        have fm := fm'
        have hlen := mu3.1.trans hlen
        have g_kinds := mu3.get g_kinds (by decide)
        have g_numbers := mu3.get g_numbers (by decide)
        have g_pending := mu3.get g_pending (by decide)
        have g_read := g3_read
        have mu := mu.tr mu3 (by decide)
        refine x_put C k_Mo f_Mo_82 d_Mo_readsSelect_23 fm (by rfl) (by rfl) (by rfl) (by omega) rfl (fun h4 u4 => ?_)
        have fki := xUp_ne u4 fki (by first | assumption | exact Ne.symm (by assumption) | exact x_ne fki fm (by simp))
        have fnu := xUp_ne u4 fnu (by first | assumption | exact Ne.symm (by assumption) | exact x_ne fnu fm (by simp))
        have fm := xUp_at u4
        have kp := kp.up u4 (by simp)
        have g_kinds := gs_ne fm g_kinds (by decide)
        have g_numbers := gs_ne fm g_numbers (by decide)
        have g_pending := gs_ne fm g_pending (by decide)
        have g_read := gs_ne fm g_read (by decide)
        have g_newFirst := gs_eq fm hlen (by decide)
        have mu := mu.setF fm (by decide)
        have hlen := gs_len fm hlen
        refine x_aload_n C d_Mo_readsSelect_26 rfl rfl ?_
        refine x_aload_n C d_Mo_readsSelect_27 rfl rfl ?_
        refine x_callV C l_Mo_78 v_Mo_readsTable d_Mo_readsSelect_28 (m_Mo_readsTable (p := if tK ks n (Q + 1) 1 = true then Q + 1 + 1 else Q + 1) fm hlen g_kinds g_numbers g_pending g_read fki fnu hn60 (tK_le (by omega) hn60)) fm rfl (by rfl) (by rfl) (by decide) (by decide) (Nat.le_of_ble_eq_true rfl) ?_
        rintro v5 h5 ⟨rfl, fs5, fm', mu5, g5_read, kp5⟩
        have fki := kp5.get fki (nm_c (by first | assumption | exact Ne.symm (by assumption) | exact x_ne fki fm (by simp)) nm_n)
        have fnu := kp5.get fnu (nm_c (by first | assumption | exact Ne.symm (by assumption) | exact x_ne fnu fm (by simp)) nm_n)
        have kp := kp.call kp5 (kc_c (Or.inl (by simp)) kc_n)
        have fm := fm'
        have hlen := mu5.1.trans hlen
        have g_kinds := mu5.get g_kinds (by decide)
        have g_numbers := mu5.get g_numbers (by decide)
        have g_pending := mu5.get g_pending (by decide)
        have g_newFirst := mu5.get g_newFirst (by decide)
        have g_read := g5_read
        have mu := mu.tr mu5 (by decide)
        refine x_put C k_Mo f_Mo_85 d_Mo_readsSelect_31 fm (by rfl) (by rfl) (by rfl) (by omega) rfl (fun h6 u6 => ?_)
        have fki := xUp_ne u6 fki (by first | assumption | exact Ne.symm (by assumption) | exact x_ne fki fm (by simp))
        have fnu := xUp_ne u6 fnu (by first | assumption | exact Ne.symm (by assumption) | exact x_ne fnu fm (by simp))
        have fm := xUp_at u6
        have kp := kp.up u6 (by simp)
        have g_kinds := gs_ne fm g_kinds (by decide)
        have g_numbers := gs_ne fm g_numbers (by decide)
        have g_pending := gs_ne fm g_pending (by decide)
        have g_newFirst := gs_ne fm g_newFirst (by decide)
        have g_read := gs_ne fm g_read (by decide)
        have g_newSecond := gs_eq fm hlen (by decide)
        have mu := mu.setF fm (by decide)
        have hlen := gs_len fm hlen
        refine x_aload_n C d_Mo_readsSelect_34 rfl rfl ?_
        refine x_get C k_Mo f_Mo_82 d_Mo_readsSelect_35 fm g_newFirst ?_
        refine x_iconst (v := -1) C d_Mo_readsSelect_38 (by decide) ?_
        refine x_icmp_eq (tgt := 49) C d_Mo_readsSelect_39 rfl (fun q39 => ?_) (fun q39 => ?_)
        · skip
          refine x_iconst (v := 0) C d_Mo_readsSelect_49 (by decide) ?_
          refine x_zret C d_Mo_readsSelect_50 (by rfl) ?_
          first | exact ⟨_, fm, mu, kp, Or.inl ⟨rfl, ts_none hL (Or.inr htn)⟩⟩ | exact ⟨_, fm, mu, kp, Or.inl ⟨rfl, ts_none hL (Or.inl (fun z => by unfold tT at q39; rw [if_pos z.2.1] at q39; exact z.2.2 q39))⟩⟩
        · skip
          have hFT1 := tFT_iff.mp (show tFT ks ns n (Q + 1) = true by unfold tFT; rw [decide_eq_false q39]; rfl)
          have hQ2 := (tK_iff.mp hFT1.1).1
          have hs7 : tW ks ns n Q 7 7 = true ∧ tK ks n (Q + 1) 1 = true ∧ ¬ ns (Q + 1) = -1 := ⟨hW7, hFT1⟩
          replace g_read := g_read.trans (show _ = some (Value.int (nI (tB ks n Q))) by rw [if_pos hFT1.1]; rfl)
          replace g_newSecond := g_newSecond.trans (show _ = some (Value.int (tT ks ns n (Q + 2))) by rw [if_pos hFT1.1])
          have e1 : tT ks ns n (Q + 1) = ns (Q + 1) := by unfold tT; rw [if_pos hFT1.1]
          replace g_newFirst := g_newFirst.trans (show _ = some (Value.int (ns (Q + 1))) by rw [e1])
          refine x_aload_n C d_Mo_readsSelect_42 rfl rfl ?_
          refine x_callV C l_Mo_88 v_Mo_readsConditions d_Mo_readsSelect_43 (m_Mo_readsConditions (p := tB ks n Q) fm hlen g_kinds g_numbers g_pending g_read fki fnu hn60 (tB_le (by omega) hn60) rfl) fm rfl (by rfl) (by rfl) (by decide) (by decide) (Nat.le_of_ble_eq_true rfl) ?_
          rintro v7 h7 ⟨fs7, fm', mu7, kp7, (⟨htn, rfl⟩ | ⟨k, fr, htc, rfl, g7_read, g7_newFrom, g7_newTo, hf1, hf0, hk8, hk60⟩)⟩
          · skip
            have fki := kp7.get fki (nm_c (by first | assumption | exact Ne.symm (by assumption) | exact x_ne fki fm (by simp)) nm_n)
            have fnu := kp7.get fnu (nm_c (by first | assumption | exact Ne.symm (by assumption) | exact x_ne fnu fm (by simp)) nm_n)
            have kp := kp.call kp7 (kc_c (Or.inl (by simp)) kc_n)
            have fm := fm'
            have hlen := mu7.1.trans hlen
            have g_kinds := mu7.get g_kinds (by decide)
            have g_numbers := mu7.get g_numbers (by decide)
            have g_pending := mu7.get g_pending (by decide)
            have g_newFirst := mu7.get g_newFirst (by decide)
            have g_newSecond := mu7.get g_newSecond (by decide)
            have mu := mu.tr mu7 (by decide)
            refine x_if_ne (tgt := 51) C d_Mo_readsSelect_46 rfl (fun q46 => ?_) (fun q46 => ?_)
            · skip
              exact absurd q46 (by decide)
            · skip
              refine x_iconst (v := 0) C d_Mo_readsSelect_49 (by decide) ?_
              refine x_zret C d_Mo_readsSelect_50 (by rfl) ?_
              first | exact ⟨_, fm, mu, kp, Or.inl ⟨rfl, ts_none hL (Or.inr htn)⟩⟩ | exact ⟨_, fm, mu, kp, Or.inl ⟨rfl, ts_none hL (Or.inl (fun z => by unfold tT at q39; rw [if_pos z.2.1] at q39; exact z.2.2 q39))⟩⟩
          · skip
            have fki := kp7.get fki (nm_c (by first | assumption | exact Ne.symm (by assumption) | exact x_ne fki fm (by simp)) nm_n)
            have fnu := kp7.get fnu (nm_c (by first | assumption | exact Ne.symm (by assumption) | exact x_ne fnu fm (by simp)) nm_n)
            have kp := kp.call kp7 (kc_c (Or.inl (by simp)) kc_n)
            have fm := fm'
            have hlen := mu7.1.trans hlen
            have g_kinds := mu7.get g_kinds (by decide)
            have g_numbers := mu7.get g_numbers (by decide)
            have g_pending := mu7.get g_pending (by decide)
            have g_newFirst := mu7.get g_newFirst (by decide)
            have g_newSecond := mu7.get g_newSecond (by decide)
            have g_read := g7_read
            have g_newFrom := g7_newFrom
            have g_newTo := g7_newTo
            have mu := mu.tr mu7 (by decide)
            have hMF := mFT.of hf1 hf0 hk60
            refine x_if_ne (tgt := 51) C d_Mo_readsSelect_46 rfl (fun q46 => ?_) (fun q46 => ?_)
            · skip
              refine x_aload_n C d_Mo_readsSelect_51 rfl rfl ?_
              refine x_aload_n C d_Mo_readsSelect_52 rfl rfl ?_
              refine x_bipush (v := 13) C d_Mo_readsSelect_53 (by decide) ?_
              refine x_callV C l_Mo_68 v_Mo_skips d_Mo_readsSelect_55 (m_Mo_skips (p := tB ks n Q + 4 * k) fm hlen g_kinds g_numbers g_pending g_read fki fnu hn60 hk60 13) fm rfl (by rfl) (by rfl) (by decide) (by decide) (Nat.le_of_ble_eq_true rfl) ?_
              rintro v8 h8 ⟨rfl, fs8, fm', mu8, g8_read, kp8⟩
              have fki := kp8.get fki (nm_c (by first | assumption | exact Ne.symm (by assumption) | exact x_ne fki fm (by simp)) nm_n)
              have fnu := kp8.get fnu (nm_c (by first | assumption | exact Ne.symm (by assumption) | exact x_ne fnu fm (by simp)) nm_n)
              have kp := kp.call kp8 (kc_c (Or.inl (by simp)) kc_n)
              have fm := fm'
              have hlen := mu8.1.trans hlen
              have g_kinds := mu8.get g_kinds (by decide)
              have g_numbers := mu8.get g_numbers (by decide)
              have g_pending := mu8.get g_pending (by decide)
              have g_newFirst := mu8.get g_newFirst (by decide)
              have g_newSecond := mu8.get g_newSecond (by decide)
              have g_newFrom := mu8.get g_newFrom (by decide)
              have g_newTo := mu8.get g_newTo (by decide)
              have g_read := g8_read
              have mu := mu.tr mu8 (by decide)
              refine x_put C k_Mo f_Mo_91 d_Mo_readsSelect_58 fm (by rfl) (by cases tS ks ns n (tB ks n Q + 4 * k) 13 <;> rfl) (by cases tS ks ns n (tB ks n Q + 4 * k) 13 <;> rfl) (by omega) rfl (fun h9 u9 => ?_)
              have fki := xUp_ne u9 fki (by first | assumption | exact Ne.symm (by assumption) | exact x_ne fki fm (by simp))
              have fnu := xUp_ne u9 fnu (by first | assumption | exact Ne.symm (by assumption) | exact x_ne fnu fm (by simp))
              have fm := xUp_at u9
              have kp := kp.up u9 (by simp)
              have g_kinds := gs_ne fm g_kinds (by decide)
              have g_numbers := gs_ne fm g_numbers (by decide)
              have g_pending := gs_ne fm g_pending (by decide)
              have g_newFirst := gs_ne fm g_newFirst (by decide)
              have g_newSecond := gs_ne fm g_newSecond (by decide)
              have g_newFrom := gs_ne fm g_newFrom (by decide)
              have g_newTo := gs_ne fm g_newTo (by decide)
              have g_read := gs_ne fm g_read (by decide)
              have g_newFalls := gs_eq fm hlen (by decide)
              have mu := mu.setF fm (by decide)
              have hlen := gs_len fm hlen
              refine x_iconst (v := 1) C d_Mo_readsSelect_61 (by decide) ?_
              refine x_zret C d_Mo_readsSelect_62 (by rfl) ?_
              replace g_read := g_read.trans (show _ = some (Value.int (nI (tEnd ks ns n (tB ks n Q + 4 * k)))) by rw [tS_eq]; rfl)
              replace g_newFalls := g_newFalls.trans (show _ = some (Value.int (bI (tW ks ns n (tB ks n Q + 4 * k) 13 13))) by rw [tS_eq])
              exact ⟨_, fm, mu, kp, Or.inr ⟨k, fr, rfl, hok, hs7, htc, g_read, g_newFirst, g_newSecond, g_newFalls, g_newFrom, g_newTo, hMF, tW_le hk60 hn60⟩⟩
            · skip
              exact absurd q46 (by decide)
      · skip
        replace q13 := bI_f q13
        refine x_iconst (v := 0) C d_Mo_readsSelect_16 (by decide) ?_
        refine x_zret C d_Mo_readsSelect_17 (by rfl) ?_
        first | exact ⟨_, fm, mu, kp, Or.inl ⟨rfl, hno⟩⟩ | exact ⟨_, fm, mu, kp, Or.inl ⟨rfl, ts_none hL (Or.inl (fun z => by have y := z.1; rw [← tS_eq, q13] at y; cases y))⟩⟩
set_option maxRecDepth 20000 in
set_option maxHeartbeats 1000000 in
theorem m_Mo_reads {V : xV} {h : xH} {mki mnu n : Nat} {ks ns : Nat → Int32} {m : Nat} {fs : List Value} (fm : h m = some (.inr (8, fs))) (hlen : fs.length = 29) (g_kinds : fs[5]? = some (.ref mki)) (g_numbers : fs[6]? = some (.ref mnu)) (g_pending : fs[7]? = some (.int (nI n))) (fki : h mki = some (xI V 60 ks)) (fnu : h mnu = some (xI V 60 ns)) (hn60 : n ≤ 60) : xM V y_Mo_reads b_Mo_reads 2 (some .boolean) 5 [.ref m] h 0 0 (fun v h' => ∃ fs', h' m = some (.inr (8, fs')) ∧ mUp [23, 26, 27, 24, 25, 28] fs fs' ∧ xKeep [m] h h' ∧ ((tParse ks ns n = none ∧ v = some (.int 0)) ∨ ∃ dd fr T, tParse ks ns n = some dd ∧ v = some (.int 1) ∧ fs'[24]? = some (.int dd.1.2.2.1) ∧ fs'[25]? = some (.int dd.1.2.2.2.1) ∧ fs'[28]? = some (.int (bI dd.1.2.2.2.2)) ∧ fs'[26]? = some (.int (nI fr)) ∧ fs'[27]? = some (.int (nI T)) ∧ mFT fr T dd.2.2.2.2.2 dd.2.2.2.2.1)) := by
  refine xM_of false (by decide) (fun h => nomatch h) (Nat.le_of_ble_eq_true rfl) (fun K C => ?_)
  show K 0 0 h 0 [(0, .ref m)] []
  have kp : xKeep [m] h h := xKeep.rf
  have mu : mUp [23, 26, 27, 24, 25, 28] fs fs := mUp.rf
  have loop : ∀ mq : Nat, ∀ (i : Nat) (h1 : xH) (fs1 : List Value), 60 - i < mq → 2 + i ≤ 60 → h1 m = some (.inr (8, fs1)) → mUp [23, 26, 27, 24, 25, 28] fs fs1 → h1 mki = some (xI V 60 ks) → h1 mnu = some (xI V 60 ns) → xKeep [m] h h1 → fs1[23]? = some (.int (nI (2 + i))) → fs1[24]? = some (.int (ns 1)) → fs1[25]? = some (.int (-1)) → fs1[28]? = some (.int 0) → fs1[26]? = some (.int 0) → fs1[27]? = some (.int 0) → (∀ j, j < i → tK ks n (2 + j) 3 = true) → ¬ n = 0 → ks 0 = 0 → ¬ ns 0 = 3 → ¬ ns 0 = 2 → tFT ks ns n 1 = true → K 0 0 h1 131 [(1, .int (nI i)), (0, .ref m)] [] := by
    intro mq
    induction mq with
    | zero => intro i h1 fs1 hm hi fm mu fki fnu kp g_read g_newFirst g_newSecond g_newFalls g_newFrom g_newTo hrun hn0 q38 q50 q102 hFT; omega
    | succ mq ih =>
      intro i h1 fs1 hm hi fm mu fki fnu kp g_read g_newFirst g_newSecond g_newFalls g_newFrom g_newTo hrun hn0 q38 q50 q102 hFT
      have hlen := mu.1.trans hlen
      have g_kinds := mu.get g_kinds (by decide)
      have g_numbers := mu.get g_numbers (by decide)
      have g_pending := mu.get g_pending (by decide)
      refine x_aload_n C d_Mo_reads_131 rfl rfl ?_
      refine x_iconst (v := 3) C d_Mo_reads_132 (by decide) ?_
      refine x_callV C l_Mo_55 v_Mo_isKind d_Mo_reads_133 (m_Mo_isKind (p := 2 + i) fm hlen g_kinds g_numbers g_pending g_read fki fnu hn60 hi 3) fm rfl (by rfl) (by rfl) (by decide) (by decide) (Nat.le_of_ble_eq_true rfl) ?_
      rintro v9 h9 ⟨rfl, rfl⟩
      refine x_if_eq (tgt := 155) C d_Mo_reads_136 rfl (fun q136 => ?_) (fun q136 => ?_)
      · skip
        replace q136 := bI_f q136
        refine x_aload_n C d_Mo_reads_155 rfl rfl ?_
        refine x_get C k_Mo f_Mo_52 d_Mo_reads_156 fm g_read ?_
        refine x_aload_n C d_Mo_reads_159 rfl rfl ?_
        refine x_get C k_Mo f_Mo_49 d_Mo_reads_160 fm g_pending ?_
        refine x_icmp_ne (tgt := 201) C d_Mo_reads_163 rfl (fun q163 => ?_) (fun q163 => ?_)
        · skip
          have hne : ¬ 2 + i = n := fun z => q163 (by rw [z])
          refine x_iconst (v := 0) C d_Mo_reads_201 (by decide) ?_
          refine x_zret C d_Mo_reads_202 (by rfl) ?_
          first | exact ⟨_, fm, mu, kp, Or.inl ⟨tp_num q50 q102 hi hrun q136 (Or.inl hne), rfl⟩⟩ | exact ⟨_, fm, mu, kp, Or.inl ⟨tp_num q50 q102 hi hrun q136 (Or.inr (Or.inl ⟨q172, hi1⟩)), rfl⟩⟩ | exact ⟨_, fm, mu, kp, Or.inl ⟨tp_num q50 q102 hi hrun q136 (Or.inr (Or.inr (Or.inl ⟨q172, q190⟩))), rfl⟩⟩ | exact ⟨_, fm, mu, kp, Or.inl ⟨tp_num q50 q102 hi hrun q136 (Or.inr (Or.inr (Or.inr ⟨q190, hi1⟩))), rfl⟩⟩ | exact ⟨_, fm, mu, kp, Or.inr ⟨_, 0, 0, tp_in q38 q190 hFT hi hrun q136 hi1 hne, rfl, g_newFirst, g_newSecond, g_newFalls, g_newFrom, g_newTo, mFT.none⟩⟩ | exact ⟨_, fm, mu, kp, Or.inr ⟨_, 0, 0, tp_cr q38 q172 hFT (hrun 0 (by omega)) (by omega), rfl, g_newFirst, g_newSecond, g_newFalls, g_newFrom, g_newTo, mFT.none⟩⟩
        · skip
          have hne : 2 + i = n := (nI_eq (by omega) (by omega)).mp q163
          refine x_aload_n C d_Mo_reads_166 rfl rfl ?_
          refine x_get C k_Mo f_Mo_22 d_Mo_reads_167 fm g_numbers ?_
          refine x_iconst (v := 0) C d_Mo_reads_170 (by decide) ?_
          refine x_iald C d_Mo_reads_171 fnu (vp_in_nI (n := 0) (by decide) (by decide)) ?_
          rw [show (0 : Int32).toNatClampNeg = 0 by decide]
          refine x_if_ne (tgt := 183) C d_Mo_reads_172 rfl (fun q172 => ?_) (fun q172 => ?_)
          · skip
            refine x_aload_n C d_Mo_reads_183 rfl rfl ?_
            refine x_get C k_Mo f_Mo_22 d_Mo_reads_184 fm g_numbers ?_
            refine x_iconst (v := 0) C d_Mo_reads_187 (by decide) ?_
            refine x_iald C d_Mo_reads_188 fnu (vp_in_nI (n := 0) (by decide) (by decide)) ?_
            rw [show (0 : Int32).toNatClampNeg = 0 by decide]
            refine x_iconst (v := 1) C d_Mo_reads_189 (by decide) ?_
            refine x_icmp_ne (tgt := 201) C d_Mo_reads_190 rfl (fun q190 => ?_) (fun q190 => ?_)
            · skip
              refine x_iconst (v := 0) C d_Mo_reads_201 (by decide) ?_
              refine x_zret C d_Mo_reads_202 (by rfl) ?_
              first | exact ⟨_, fm, mu, kp, Or.inl ⟨tp_num q50 q102 hi hrun q136 (Or.inl hne), rfl⟩⟩ | exact ⟨_, fm, mu, kp, Or.inl ⟨tp_num q50 q102 hi hrun q136 (Or.inr (Or.inl ⟨q172, hi1⟩)), rfl⟩⟩ | exact ⟨_, fm, mu, kp, Or.inl ⟨tp_num q50 q102 hi hrun q136 (Or.inr (Or.inr (Or.inl ⟨q172, q190⟩))), rfl⟩⟩ | exact ⟨_, fm, mu, kp, Or.inl ⟨tp_num q50 q102 hi hrun q136 (Or.inr (Or.inr (Or.inr ⟨q190, hi1⟩))), rfl⟩⟩ | exact ⟨_, fm, mu, kp, Or.inr ⟨_, 0, 0, tp_in q38 q190 hFT hi hrun q136 hi1 hne, rfl, g_newFirst, g_newSecond, g_newFalls, g_newFrom, g_newTo, mFT.none⟩⟩ | exact ⟨_, fm, mu, kp, Or.inr ⟨_, 0, 0, tp_cr q38 q172 hFT (hrun 0 (by omega)) (by omega), rfl, g_newFirst, g_newSecond, g_newFalls, g_newFrom, g_newTo, mFT.none⟩⟩
            · skip
              refine x_iload_n C d_Mo_reads_193 rfl rfl ?_
              refine x_if_le (tgt := 201) C d_Mo_reads_194 rfl (fun q194 => ?_) (fun q194 => ?_)
              · skip
                have hi1 : i = 0 := by rcases Nat.eq_zero_or_pos i with z | z; exact z; exact absurd q194 (nI_nle z (by omega))
                refine x_iconst (v := 0) C d_Mo_reads_201 (by decide) ?_
                refine x_zret C d_Mo_reads_202 (by rfl) ?_
                first | exact ⟨_, fm, mu, kp, Or.inl ⟨tp_num q50 q102 hi hrun q136 (Or.inl hne), rfl⟩⟩ | exact ⟨_, fm, mu, kp, Or.inl ⟨tp_num q50 q102 hi hrun q136 (Or.inr (Or.inl ⟨q172, hi1⟩)), rfl⟩⟩ | exact ⟨_, fm, mu, kp, Or.inl ⟨tp_num q50 q102 hi hrun q136 (Or.inr (Or.inr (Or.inl ⟨q172, q190⟩))), rfl⟩⟩ | exact ⟨_, fm, mu, kp, Or.inl ⟨tp_num q50 q102 hi hrun q136 (Or.inr (Or.inr (Or.inr ⟨q190, hi1⟩))), rfl⟩⟩ | exact ⟨_, fm, mu, kp, Or.inr ⟨_, 0, 0, tp_in q38 q190 hFT hi hrun q136 hi1 hne, rfl, g_newFirst, g_newSecond, g_newFalls, g_newFrom, g_newTo, mFT.none⟩⟩ | exact ⟨_, fm, mu, kp, Or.inr ⟨_, 0, 0, tp_cr q38 q172 hFT (hrun 0 (by omega)) (by omega), rfl, g_newFirst, g_newSecond, g_newFalls, g_newFrom, g_newTo, mFT.none⟩⟩
              · skip
                have hi1 : 0 < i := by rcases Nat.eq_zero_or_pos i with z | z; exact absurd (show nI i ≤ 0 by rw [z]; decide) q194; exact z
                refine x_iconst (v := 1) C d_Mo_reads_197 (by decide) ?_
                refine x_goto (tgt := 202) C d_Mo_reads_198 rfl ?_
                refine x_zret C d_Mo_reads_202 (by rfl) ?_
                first | exact ⟨_, fm, mu, kp, Or.inl ⟨tp_num q50 q102 hi hrun q136 (Or.inl hne), rfl⟩⟩ | exact ⟨_, fm, mu, kp, Or.inl ⟨tp_num q50 q102 hi hrun q136 (Or.inr (Or.inl ⟨q172, hi1⟩)), rfl⟩⟩ | exact ⟨_, fm, mu, kp, Or.inl ⟨tp_num q50 q102 hi hrun q136 (Or.inr (Or.inr (Or.inl ⟨q172, q190⟩))), rfl⟩⟩ | exact ⟨_, fm, mu, kp, Or.inl ⟨tp_num q50 q102 hi hrun q136 (Or.inr (Or.inr (Or.inr ⟨q190, hi1⟩))), rfl⟩⟩ | exact ⟨_, fm, mu, kp, Or.inr ⟨_, 0, 0, tp_in q38 q190 hFT hi hrun q136 hi1 hne, rfl, g_newFirst, g_newSecond, g_newFalls, g_newFrom, g_newTo, mFT.none⟩⟩ | exact ⟨_, fm, mu, kp, Or.inr ⟨_, 0, 0, tp_cr q38 q172 hFT (hrun 0 (by omega)) (by omega), rfl, g_newFirst, g_newSecond, g_newFalls, g_newFrom, g_newTo, mFT.none⟩⟩
          · skip
            refine x_iload_n C d_Mo_reads_175 rfl rfl ?_
            refine x_iconst (v := 1) C d_Mo_reads_176 (by decide) ?_
            refine x_icmp_ne (tgt := 201) C d_Mo_reads_177 rfl (fun q177 => ?_) (fun q177 => ?_)
            · skip
              have hi1 : ¬ i = 1 := fun z => q177 (by rw [z]; rfl)
              refine x_iconst (v := 0) C d_Mo_reads_201 (by decide) ?_
              refine x_zret C d_Mo_reads_202 (by rfl) ?_
              first | exact ⟨_, fm, mu, kp, Or.inl ⟨tp_num q50 q102 hi hrun q136 (Or.inl hne), rfl⟩⟩ | exact ⟨_, fm, mu, kp, Or.inl ⟨tp_num q50 q102 hi hrun q136 (Or.inr (Or.inl ⟨q172, hi1⟩)), rfl⟩⟩ | exact ⟨_, fm, mu, kp, Or.inl ⟨tp_num q50 q102 hi hrun q136 (Or.inr (Or.inr (Or.inl ⟨q172, q190⟩))), rfl⟩⟩ | exact ⟨_, fm, mu, kp, Or.inl ⟨tp_num q50 q102 hi hrun q136 (Or.inr (Or.inr (Or.inr ⟨q190, hi1⟩))), rfl⟩⟩ | exact ⟨_, fm, mu, kp, Or.inr ⟨_, 0, 0, tp_in q38 q190 hFT hi hrun q136 hi1 hne, rfl, g_newFirst, g_newSecond, g_newFalls, g_newFrom, g_newTo, mFT.none⟩⟩ | exact ⟨_, fm, mu, kp, Or.inr ⟨_, 0, 0, tp_cr q38 q172 hFT (hrun 0 (by omega)) (by omega), rfl, g_newFirst, g_newSecond, g_newFalls, g_newFrom, g_newTo, mFT.none⟩⟩
            · skip
              have hi1 : i = 1 := (nI_eq (b := 1) (by omega) (by omega)).mp q177
              refine x_goto (tgt := 197) C d_Mo_reads_180 rfl ?_
              refine x_iconst (v := 1) C d_Mo_reads_197 (by decide) ?_
              refine x_goto (tgt := 202) C d_Mo_reads_198 rfl ?_
              refine x_zret C d_Mo_reads_202 (by rfl) ?_
              first | exact ⟨_, fm, mu, kp, Or.inl ⟨tp_num q50 q102 hi hrun q136 (Or.inl hne), rfl⟩⟩ | exact ⟨_, fm, mu, kp, Or.inl ⟨tp_num q50 q102 hi hrun q136 (Or.inr (Or.inl ⟨q172, hi1⟩)), rfl⟩⟩ | exact ⟨_, fm, mu, kp, Or.inl ⟨tp_num q50 q102 hi hrun q136 (Or.inr (Or.inr (Or.inl ⟨q172, q190⟩))), rfl⟩⟩ | exact ⟨_, fm, mu, kp, Or.inl ⟨tp_num q50 q102 hi hrun q136 (Or.inr (Or.inr (Or.inr ⟨q190, hi1⟩))), rfl⟩⟩ | exact ⟨_, fm, mu, kp, Or.inr ⟨_, 0, 0, tp_in q38 q190 hFT hi hrun q136 hi1 hne, rfl, g_newFirst, g_newSecond, g_newFalls, g_newFrom, g_newTo, mFT.none⟩⟩ | exact ⟨_, fm, mu, kp, Or.inr ⟨_, 0, 0, tp_cr q38 q172 hFT (hrun 0 (by omega)) (by omega), rfl, g_newFirst, g_newSecond, g_newFalls, g_newFrom, g_newTo, mFT.none⟩⟩
      · skip
        replace q136 := bI_t q136
        have hpn := (tK_iff.mp q136).1
        refine x_aload_n C d_Mo_reads_139 rfl rfl ?_
        refine x_dup C d_Mo_reads_140 rfl ?_
        refine x_get C k_Mo f_Mo_52 d_Mo_reads_141 fm g_read ?_
        refine x_iconst (v := 1) C d_Mo_reads_144 (by decide) ?_
        refine x_iadd C d_Mo_reads_145 ?_
        refine x_put C k_Mo f_Mo_52 d_Mo_reads_146 fm (by rfl) (by rfl) (by rfl) (by omega) rfl (fun h1 u1 => ?_)
        have fki := xUp_ne u1 fki (by first | assumption | exact Ne.symm (by assumption) | exact x_ne fki fm (by simp))
        have fnu := xUp_ne u1 fnu (by first | assumption | exact Ne.symm (by assumption) | exact x_ne fnu fm (by simp))
        have fm := xUp_at u1
        have kp := kp.up u1 (by simp)
        have g_kinds := gs_ne fm g_kinds (by decide)
        have g_numbers := gs_ne fm g_numbers (by decide)
        have g_pending := gs_ne fm g_pending (by decide)
        have g_newFirst := gs_ne fm g_newFirst (by decide)
        have g_newSecond := gs_ne fm g_newSecond (by decide)
        have g_newFalls := gs_ne fm g_newFalls (by decide)
        have g_newFrom := gs_ne fm g_newFrom (by decide)
        have g_newTo := gs_ne fm g_newTo (by decide)
        have g_read := gs_eq fm hlen (by decide)
        have mu := mu.setF fm (by decide)
        have hlen := gs_len fm hlen
        refine x_iinc (v := nI (i + 1)) (k0 := 0) (lv' := [(1, _), (0, _)]) C d_Mo_reads_149 (by rfl) (nI_1 i) (by decide) (by rfl) ?_
        refine x_goto (tgt := 131) C d_Mo_reads_152 rfl ?_
        exact ih (i + 1) _ _ (by omega) (by omega) fm mu fki fnu kp (by rw [g_read, nI_1]; rfl) g_newFirst g_newSecond g_newFalls g_newFrom g_newTo (lt_s hrun q136) hn0 q38 q50 q102 hFT
  refine x_aload_n C d_Mo_reads_0 rfl rfl ?_
  refine x_iconst (v := 1) C d_Mo_reads_1 (by decide) ?_
  refine x_put C k_Mo f_Mo_52 d_Mo_reads_2 fm (by rfl) (by rfl) (by rfl) (by omega) rfl (fun h2 u2 => ?_)
  have fki := xUp_ne u2 fki (by first | assumption | exact Ne.symm (by assumption) | exact x_ne fki fm (by simp))
  have fnu := xUp_ne u2 fnu (by first | assumption | exact Ne.symm (by assumption) | exact x_ne fnu fm (by simp))
  have fm := xUp_at u2
  have kp := kp.up u2 (by simp)
  have g_kinds := gs_ne fm g_kinds (by decide)
  have g_numbers := gs_ne fm g_numbers (by decide)
  have g_pending := gs_ne fm g_pending (by decide)
  have g_read := gs_eq fm hlen (by decide)
  have mu := mu.setF fm (by decide)
  have hlen := gs_len fm hlen
  refine x_aload_n C d_Mo_reads_5 rfl rfl ?_
  refine x_iconst (v := -1) C d_Mo_reads_6 (by decide) ?_
  refine x_put C k_Mo f_Mo_85 d_Mo_reads_7 fm (by rfl) (by rfl) (by rfl) (by omega) rfl (fun h3 u3 => ?_)
  have fki := xUp_ne u3 fki (by first | assumption | exact Ne.symm (by assumption) | exact x_ne fki fm (by simp))
  have fnu := xUp_ne u3 fnu (by first | assumption | exact Ne.symm (by assumption) | exact x_ne fnu fm (by simp))
  have fm := xUp_at u3
  have kp := kp.up u3 (by simp)
  have g_kinds := gs_ne fm g_kinds (by decide)
  have g_numbers := gs_ne fm g_numbers (by decide)
  have g_pending := gs_ne fm g_pending (by decide)
  have g_read := gs_ne fm g_read (by decide)
  have g_newSecond := gs_eq fm hlen (by decide)
  have mu := mu.setF fm (by decide)
  have hlen := gs_len fm hlen
  refine x_aload_n C d_Mo_reads_10 rfl rfl ?_
  refine x_iconst (v := 0) C d_Mo_reads_11 (by decide) ?_
  refine x_put C k_Mo f_Mo_91 d_Mo_reads_12 fm (by rfl) (by rfl) (by rfl) (by omega) rfl (fun h4 u4 => ?_)
  have fki := xUp_ne u4 fki (by first | assumption | exact Ne.symm (by assumption) | exact x_ne fki fm (by simp))
  have fnu := xUp_ne u4 fnu (by first | assumption | exact Ne.symm (by assumption) | exact x_ne fnu fm (by simp))
  have fm := xUp_at u4
  have kp := kp.up u4 (by simp)
  have g_kinds := gs_ne fm g_kinds (by decide)
  have g_numbers := gs_ne fm g_numbers (by decide)
  have g_pending := gs_ne fm g_pending (by decide)
  have g_read := gs_ne fm g_read (by decide)
  have g_newSecond := gs_ne fm g_newSecond (by decide)
  have g_newFalls := gs_eq fm hlen (by decide)
  have mu := mu.setF fm (by decide)
  have hlen := gs_len fm hlen
  refine x_aload_n C d_Mo_reads_15 rfl rfl ?_
  refine x_iconst (v := 0) C d_Mo_reads_16 (by decide) ?_
  refine x_put C k_Mo f_Mo_62 d_Mo_reads_17 fm (by rfl) (by rfl) (by rfl) (by omega) rfl (fun h5 u5 => ?_)
  have fki := xUp_ne u5 fki (by first | assumption | exact Ne.symm (by assumption) | exact x_ne fki fm (by simp))
  have fnu := xUp_ne u5 fnu (by first | assumption | exact Ne.symm (by assumption) | exact x_ne fnu fm (by simp))
  have fm := xUp_at u5
  have kp := kp.up u5 (by simp)
  have g_kinds := gs_ne fm g_kinds (by decide)
  have g_numbers := gs_ne fm g_numbers (by decide)
  have g_pending := gs_ne fm g_pending (by decide)
  have g_read := gs_ne fm g_read (by decide)
  have g_newSecond := gs_ne fm g_newSecond (by decide)
  have g_newFalls := gs_ne fm g_newFalls (by decide)
  have g_newFrom := gs_eq fm hlen (by decide)
  have mu := mu.setF fm (by decide)
  have hlen := gs_len fm hlen
  refine x_aload_n C d_Mo_reads_20 rfl rfl ?_
  refine x_iconst (v := 0) C d_Mo_reads_21 (by decide) ?_
  refine x_put C k_Mo f_Mo_65 d_Mo_reads_22 fm (by rfl) (by rfl) (by rfl) (by omega) rfl (fun h6 u6 => ?_)
  have fki := xUp_ne u6 fki (by first | assumption | exact Ne.symm (by assumption) | exact x_ne fki fm (by simp))
  have fnu := xUp_ne u6 fnu (by first | assumption | exact Ne.symm (by assumption) | exact x_ne fnu fm (by simp))
  have fm := xUp_at u6
  have kp := kp.up u6 (by simp)
  have g_kinds := gs_ne fm g_kinds (by decide)
  have g_numbers := gs_ne fm g_numbers (by decide)
  have g_pending := gs_ne fm g_pending (by decide)
  have g_read := gs_ne fm g_read (by decide)
  have g_newSecond := gs_ne fm g_newSecond (by decide)
  have g_newFalls := gs_ne fm g_newFalls (by decide)
  have g_newFrom := gs_ne fm g_newFrom (by decide)
  have g_newTo := gs_eq fm hlen (by decide)
  have mu := mu.setF fm (by decide)
  have hlen := gs_len fm hlen
  refine x_aload_n C d_Mo_reads_25 rfl rfl ?_
  refine x_get C k_Mo f_Mo_49 d_Mo_reads_26 fm g_pending ?_
  refine x_if_eq (tgt := 41) C d_Mo_reads_29 rfl (fun q29 => ?_) (fun q29 => ?_)
  · skip
    have hn0 : n = 0 := (nI_eq (b := 0) (by omega) (by omega)).mp q29
    refine x_iconst (v := 0) C d_Mo_reads_41 (by decide) ?_
    refine x_zret C d_Mo_reads_42 (by rfl) ?_
    first | exact ⟨_, fm, mu, kp, Or.inl ⟨tp_none0 (Or.inl hn0), rfl⟩⟩ | exact ⟨_, fm, mu, kp, Or.inl ⟨tp_none0 (Or.inr q38), rfl⟩⟩
  · skip
    have hn0 : ¬ n = 0 := fun z => q29 (by rw [z]; rfl)
    refine x_aload_n C d_Mo_reads_32 rfl rfl ?_
    refine x_get C k_Mo f_Mo_19 d_Mo_reads_33 fm g_kinds ?_
    refine x_iconst (v := 0) C d_Mo_reads_36 (by decide) ?_
    refine x_iald C d_Mo_reads_37 fki (vp_in_nI (n := 0) (by decide) (by decide)) ?_
    rw [show (0 : Int32).toNatClampNeg = 0 by decide]
    refine x_if_eq (tgt := 43) C d_Mo_reads_38 rfl (fun q38 => ?_) (fun q38 => ?_)
    · skip
      refine x_aload_n C d_Mo_reads_43 rfl rfl ?_
      refine x_get C k_Mo f_Mo_22 d_Mo_reads_44 fm g_numbers ?_
      refine x_iconst (v := 0) C d_Mo_reads_47 (by decide) ?_
      refine x_iald C d_Mo_reads_48 fnu (vp_in_nI (n := 0) (by decide) (by decide)) ?_
      rw [show (0 : Int32).toNatClampNeg = 0 by decide]
      refine x_iconst (v := 3) C d_Mo_reads_49 (by decide) ?_
      refine x_icmp_ne (tgt := 77) C d_Mo_reads_50 rfl (fun q50 => ?_) (fun q50 => ?_)
      · skip
        refine x_aload_n C d_Mo_reads_77 rfl rfl ?_
        refine x_aload_n C d_Mo_reads_78 rfl rfl ?_
        refine x_callV C l_Mo_78 v_Mo_readsTable d_Mo_reads_79 (m_Mo_readsTable (p := 1) fm hlen g_kinds g_numbers g_pending g_read fki fnu hn60 (by omega)) fm rfl (by rfl) (by rfl) (by decide) (by decide) (Nat.le_of_ble_eq_true rfl) ?_
        rintro v7 h7 ⟨rfl, fs7, fm', mu7, g7_read, kp7⟩
        have fki := kp7.get fki (nm_c (by first | assumption | exact Ne.symm (by assumption) | exact x_ne fki fm (by simp)) nm_n)
        have fnu := kp7.get fnu (nm_c (by first | assumption | exact Ne.symm (by assumption) | exact x_ne fnu fm (by simp)) nm_n)
        have kp := kp.call kp7 (kc_c (Or.inl (by simp)) kc_n)
        have fm := fm'
        have hlen := mu7.1.trans hlen
        have g_kinds := mu7.get g_kinds (by decide)
        have g_numbers := mu7.get g_numbers (by decide)
        have g_pending := mu7.get g_pending (by decide)
        have g_newSecond := mu7.get g_newSecond (by decide)
        have g_newFalls := mu7.get g_newFalls (by decide)
        have g_newFrom := mu7.get g_newFrom (by decide)
        have g_newTo := mu7.get g_newTo (by decide)
        have g_read := g7_read
        have mu := mu.tr mu7 (by decide)
        refine x_put C k_Mo f_Mo_82 d_Mo_reads_82 fm (by rfl) (by rfl) (by rfl) (by omega) rfl (fun h8 u8 => ?_)
        have fki := xUp_ne u8 fki (by first | assumption | exact Ne.symm (by assumption) | exact x_ne fki fm (by simp))
        have fnu := xUp_ne u8 fnu (by first | assumption | exact Ne.symm (by assumption) | exact x_ne fnu fm (by simp))
        have fm := xUp_at u8
        have kp := kp.up u8 (by simp)
        have g_kinds := gs_ne fm g_kinds (by decide)
        have g_numbers := gs_ne fm g_numbers (by decide)
        have g_pending := gs_ne fm g_pending (by decide)
        have g_newSecond := gs_ne fm g_newSecond (by decide)
        have g_newFalls := gs_ne fm g_newFalls (by decide)
        have g_newFrom := gs_ne fm g_newFrom (by decide)
        have g_newTo := gs_ne fm g_newTo (by decide)
        have g_read := gs_ne fm g_read (by decide)
        have g_newFirst := gs_eq fm hlen (by decide)
        have mu := mu.setF fm (by decide)
        have hlen := gs_len fm hlen
        refine x_aload_n C d_Mo_reads_85 rfl rfl ?_
        refine x_get C k_Mo f_Mo_82 d_Mo_reads_86 fm g_newFirst ?_
        refine x_iconst (v := -1) C d_Mo_reads_89 (by decide) ?_
        refine x_icmp_ne (tgt := 95) C d_Mo_reads_90 rfl (fun q90 => ?_) (fun q90 => ?_)
        · skip
          have hFT := show tFT ks ns n 1 = true by unfold tFT; rw [decide_eq_false q90]; rfl
          have hFT1 := tFT_iff.mp hFT
          replace g_read := g_read.trans (show _ = some (Value.int (nI 2)) by rw [if_pos hFT1.1])
          have e1 : tT ks ns n 1 = ns 1 := by unfold tT; rw [if_pos hFT1.1]
          replace g_newFirst := g_newFirst.trans (show _ = some (Value.int (ns 1)) by rw [e1])
          refine x_aload_n C d_Mo_reads_95 rfl rfl ?_
          refine x_get C k_Mo f_Mo_22 d_Mo_reads_96 fm g_numbers ?_
          refine x_iconst (v := 0) C d_Mo_reads_99 (by decide) ?_
          refine x_iald C d_Mo_reads_100 fnu (vp_in_nI (n := 0) (by decide) (by decide)) ?_
          rw [show (0 : Int32).toNatClampNeg = 0 by decide]
          refine x_iconst (v := 2) C d_Mo_reads_101 (by decide) ?_
          refine x_icmp_ne (tgt := 129) C d_Mo_reads_102 rfl (fun q102 => ?_) (fun q102 => ?_)
          · skip
            refine x_iconst (v := 0) C d_Mo_reads_129 (by decide) ?_
            refine x_istore_n (lv' := [(1, _), (0, _)]) C d_Mo_reads_130 rfl (by decide) (by rfl) ?_
            exact loop 61 0 _ _ (by omega) (by omega) fm mu fki fnu kp g_read g_newFirst g_newSecond g_newFalls g_newFrom g_newTo lt_0 hn0 q38 q50 q102 hFT
          · skip
            have hW := tp_w hn0 q38 q102 (by decide) (by decide)
            refine x_aload_n C d_Mo_reads_105 rfl rfl ?_
            refine x_callV C l_Mo_88 v_Mo_readsConditions d_Mo_reads_106 (m_Mo_readsConditions (p := 2) fm hlen g_kinds g_numbers g_pending g_read fki fnu hn60 (by omega) rfl) fm rfl (by rfl) (by rfl) (by decide) (by decide) (Nat.le_of_ble_eq_true rfl) ?_
            rintro v9 h9 ⟨fs9, fm', mu9, kp9, (⟨htn, rfl⟩ | ⟨k, fr, htc, rfl, g9_read, g9_newFrom, g9_newTo, hf1, hf0, hk8, hk60⟩)⟩
            · skip
              have fki := kp9.get fki (nm_c (by first | assumption | exact Ne.symm (by assumption) | exact x_ne fki fm (by simp)) nm_n)
              have fnu := kp9.get fnu (nm_c (by first | assumption | exact Ne.symm (by assumption) | exact x_ne fnu fm (by simp)) nm_n)
              have kp := kp.call kp9 (kc_c (Or.inl (by simp)) kc_n)
              have fm := fm'
              have hlen := mu9.1.trans hlen
              have g_kinds := mu9.get g_kinds (by decide)
              have g_numbers := mu9.get g_numbers (by decide)
              have g_pending := mu9.get g_pending (by decide)
              have g_newSecond := mu9.get g_newSecond (by decide)
              have g_newFalls := mu9.get g_newFalls (by decide)
              have g_newFirst := mu9.get g_newFirst (by decide)
              have mu := mu.tr mu9 (by decide)
              refine x_if_eq (tgt := 127) C d_Mo_reads_109 rfl (fun q109 => ?_) (fun q109 => ?_)
              · skip
                refine x_iconst (v := 0) C d_Mo_reads_127 (by decide) ?_
                refine x_zret C d_Mo_reads_128 (by rfl) ?_
                first | exact ⟨_, fm, mu, kp, Or.inl ⟨by rw [tp_2 hW q102, if_pos hFT, htn]; rfl, rfl⟩⟩ | exact ⟨_, fm, mu, kp, Or.inl ⟨by rw [tp_2 hW q102, if_pos hFT, htc]; show (if 2 + 4 * k = n then _ else none) = none; rw [if_neg hne], rfl⟩⟩ | exact ⟨_, fm, mu, kp, Or.inr ⟨((2, -1, ns 1, -1, false), (0, 0, 0, k, 2)), fr, 2 + 4 * k, by rw [tp_2 hW q102, if_pos hFT, htc]; show (if 2 + 4 * k = n then _ else none) = _; rw [if_pos hne], rfl, g_newFirst, g_newSecond, g_newFalls, g_newFrom, g_newTo, hMF⟩⟩
              · skip
                exact absurd q109 (by decide)
            · skip
              have fki := kp9.get fki (nm_c (by first | assumption | exact Ne.symm (by assumption) | exact x_ne fki fm (by simp)) nm_n)
              have fnu := kp9.get fnu (nm_c (by first | assumption | exact Ne.symm (by assumption) | exact x_ne fnu fm (by simp)) nm_n)
              have kp := kp.call kp9 (kc_c (Or.inl (by simp)) kc_n)
              have fm := fm'
              have hlen := mu9.1.trans hlen
              have g_kinds := mu9.get g_kinds (by decide)
              have g_numbers := mu9.get g_numbers (by decide)
              have g_pending := mu9.get g_pending (by decide)
              have g_newSecond := mu9.get g_newSecond (by decide)
              have g_newFalls := mu9.get g_newFalls (by decide)
              have g_newFirst := mu9.get g_newFirst (by decide)
              have g_read := g9_read
              have g_newFrom := g9_newFrom
              have g_newTo := g9_newTo
              have mu := mu.tr mu9 (by decide)
              have hMF := mFT.of hf1 hf0 hk60
              refine x_if_eq (tgt := 127) C d_Mo_reads_109 rfl (fun q109 => ?_) (fun q109 => ?_)
              · skip
                exact absurd q109 (by decide)
              · skip
                refine x_aload_n C d_Mo_reads_112 rfl rfl ?_
                refine x_get C k_Mo f_Mo_52 d_Mo_reads_113 fm g_read ?_
                refine x_aload_n C d_Mo_reads_116 rfl rfl ?_
                refine x_get C k_Mo f_Mo_49 d_Mo_reads_117 fm g_pending ?_
                refine x_icmp_ne (tgt := 127) C d_Mo_reads_120 rfl (fun q120 => ?_) (fun q120 => ?_)
                · skip
                  have hne : ¬ 2 + 4 * k = n := fun z => q120 (by rw [z])
                  refine x_iconst (v := 0) C d_Mo_reads_127 (by decide) ?_
                  refine x_zret C d_Mo_reads_128 (by rfl) ?_
                  first | exact ⟨_, fm, mu, kp, Or.inl ⟨by rw [tp_2 hW q102, if_pos hFT, htn]; rfl, rfl⟩⟩ | exact ⟨_, fm, mu, kp, Or.inl ⟨by rw [tp_2 hW q102, if_pos hFT, htc]; show (if 2 + 4 * k = n then _ else none) = none; rw [if_neg hne], rfl⟩⟩ | exact ⟨_, fm, mu, kp, Or.inr ⟨((2, -1, ns 1, -1, false), (0, 0, 0, k, 2)), fr, 2 + 4 * k, by rw [tp_2 hW q102, if_pos hFT, htc]; show (if 2 + 4 * k = n then _ else none) = _; rw [if_pos hne], rfl, g_newFirst, g_newSecond, g_newFalls, g_newFrom, g_newTo, hMF⟩⟩
                · skip
                  have hne : 2 + 4 * k = n := (nI_eq (by omega) (by omega)).mp q120
                  refine x_iconst (v := 1) C d_Mo_reads_123 (by decide) ?_
                  refine x_goto (tgt := 128) C d_Mo_reads_124 rfl ?_
                  refine x_zret C d_Mo_reads_128 (by rfl) ?_
                  first | exact ⟨_, fm, mu, kp, Or.inl ⟨by rw [tp_2 hW q102, if_pos hFT, htn]; rfl, rfl⟩⟩ | exact ⟨_, fm, mu, kp, Or.inl ⟨by rw [tp_2 hW q102, if_pos hFT, htc]; show (if 2 + 4 * k = n then _ else none) = none; rw [if_neg hne], rfl⟩⟩ | exact ⟨_, fm, mu, kp, Or.inr ⟨((2, -1, ns 1, -1, false), (0, 0, 0, k, 2)), fr, 2 + 4 * k, by rw [tp_2 hW q102, if_pos hFT, htc]; show (if 2 + 4 * k = n then _ else none) = _; rw [if_pos hne], rfl, g_newFirst, g_newSecond, g_newFalls, g_newFrom, g_newTo, hMF⟩⟩
        · skip
          refine x_iconst (v := 0) C d_Mo_reads_93 (by decide) ?_
          refine x_zret C d_Mo_reads_94 (by rfl) ?_
          exact ⟨_, fm, mu, kp, Or.inl ⟨tp_noFT q50 (fun z => by have y := tFT_iff.mp z; unfold tT at q90; rw [if_pos y.1] at q90; exact y.2 q90), rfl⟩⟩
      · skip
        have hW := tp_w hn0 q38 q50 (by decide) (by decide)
        refine x_aload_n C d_Mo_reads_53 rfl rfl ?_
        obtain ⟨ok, r, Q, ls, hL⟩ : ∃ ok r Q ls, tLst ks ns n 1 = (ok, r, Q, ls) := ⟨_, _, _, _, rfl⟩
        refine x_callV C l_Mo_95 v_Mo_readsSelect d_Mo_reads_54 (m_Mo_readsSelect (p := 1) fm hlen g_kinds g_numbers g_pending g_read fki fnu hn60 (by omega) hL) fm rfl (by rfl) (by rfl) (by decide) (by decide) (Nat.le_of_ble_eq_true rfl) ?_
        rintro v10 h10 ⟨fs10, fm', mu10, kp10, (⟨rfl, hno⟩ | ⟨k, fr, rfl, hok, hs7, htc, g10_read, g10_newFirst, g10_newSecond, g10_newFalls, g10_newFrom, g10_newTo, hFT, he6⟩)⟩
        · skip
          have fki := kp10.get fki (nm_c (by first | assumption | exact Ne.symm (by assumption) | exact x_ne fki fm (by simp)) nm_n)
          have fnu := kp10.get fnu (nm_c (by first | assumption | exact Ne.symm (by assumption) | exact x_ne fnu fm (by simp)) nm_n)
          have kp := kp.call kp10 (kc_c (Or.inl (by simp)) kc_n)
          have fm := fm'
          have hlen := mu10.1.trans hlen
          have g_kinds := mu10.get g_kinds (by decide)
          have g_numbers := mu10.get g_numbers (by decide)
          have g_pending := mu10.get g_pending (by decide)
          have mu := mu.tr mu10 (by decide)
          refine x_if_eq (tgt := 75) C d_Mo_reads_57 rfl (fun q57 => ?_) (fun q57 => ?_)
          · skip
            refine x_iconst (v := 0) C d_Mo_reads_75 (by decide) ?_
            refine x_zret C d_Mo_reads_76 (by rfl) ?_
            first | exact ⟨_, fm, mu, kp, Or.inl ⟨(tp_3 hW q50).trans hno, rfl⟩⟩ | exact ⟨_, fm, mu, kp, Or.inl ⟨by rw [tp_3 hW q50, ts_some hL hok hs7 htc, if_neg hne], rfl⟩⟩ | exact ⟨_, fm, mu, kp, Or.inr ⟨_, fr, _, by rw [tp_3 hW q50, ts_some hL hok hs7 htc, if_pos hne], rfl, g_newFirst, g_newSecond, g_newFalls, g_newFrom, g_newTo, hFT⟩⟩
          · skip
            exact absurd q57 (by decide)
        · skip
          have fki := kp10.get fki (nm_c (by first | assumption | exact Ne.symm (by assumption) | exact x_ne fki fm (by simp)) nm_n)
          have fnu := kp10.get fnu (nm_c (by first | assumption | exact Ne.symm (by assumption) | exact x_ne fnu fm (by simp)) nm_n)
          have kp := kp.call kp10 (kc_c (Or.inl (by simp)) kc_n)
          have fm := fm'
          have hlen := mu10.1.trans hlen
          have g_kinds := mu10.get g_kinds (by decide)
          have g_numbers := mu10.get g_numbers (by decide)
          have g_pending := mu10.get g_pending (by decide)
          have g_read := g10_read
          have g_newFrom := g10_newFrom
          have g_newTo := g10_newTo
          have g_newFirst := g10_newFirst
          have g_newSecond := g10_newSecond
          have g_newFalls := g10_newFalls
          have mu := mu.tr mu10 (by decide)
          refine x_if_eq (tgt := 75) C d_Mo_reads_57 rfl (fun q57 => ?_) (fun q57 => ?_)
          · skip
            exact absurd q57 (by decide)
          · skip
            refine x_aload_n C d_Mo_reads_60 rfl rfl ?_
            refine x_get C k_Mo f_Mo_52 d_Mo_reads_61 fm g_read ?_
            refine x_aload_n C d_Mo_reads_64 rfl rfl ?_
            refine x_get C k_Mo f_Mo_49 d_Mo_reads_65 fm g_pending ?_
            refine x_icmp_ne (tgt := 75) C d_Mo_reads_68 rfl (fun q68 => ?_) (fun q68 => ?_)
            · skip
              have hne : ¬ tEnd ks ns n (tB ks n Q + 4 * k) = n := fun z => q68 (by rw [z])
              refine x_iconst (v := 0) C d_Mo_reads_75 (by decide) ?_
              refine x_zret C d_Mo_reads_76 (by rfl) ?_
              first | exact ⟨_, fm, mu, kp, Or.inl ⟨(tp_3 hW q50).trans hno, rfl⟩⟩ | exact ⟨_, fm, mu, kp, Or.inl ⟨by rw [tp_3 hW q50, ts_some hL hok hs7 htc, if_neg hne], rfl⟩⟩ | exact ⟨_, fm, mu, kp, Or.inr ⟨_, fr, _, by rw [tp_3 hW q50, ts_some hL hok hs7 htc, if_pos hne], rfl, g_newFirst, g_newSecond, g_newFalls, g_newFrom, g_newTo, hFT⟩⟩
            · skip
              have hne : tEnd ks ns n (tB ks n Q + 4 * k) = n := (nI_eq (by omega) (by omega)).mp q68
              refine x_iconst (v := 1) C d_Mo_reads_71 (by decide) ?_
              refine x_goto (tgt := 76) C d_Mo_reads_72 rfl ?_
              refine x_zret C d_Mo_reads_76 (by rfl) ?_
              first | exact ⟨_, fm, mu, kp, Or.inl ⟨(tp_3 hW q50).trans hno, rfl⟩⟩ | exact ⟨_, fm, mu, kp, Or.inl ⟨by rw [tp_3 hW q50, ts_some hL hok hs7 htc, if_neg hne], rfl⟩⟩ | exact ⟨_, fm, mu, kp, Or.inr ⟨_, fr, _, by rw [tp_3 hW q50, ts_some hL hok hs7 htc, if_pos hne], rfl, g_newFirst, g_newSecond, g_newFalls, g_newFrom, g_newTo, hFT⟩⟩
    · skip
      refine x_iconst (v := 0) C d_Mo_reads_41 (by decide) ?_
      refine x_zret C d_Mo_reads_42 (by rfl) ?_
      first | exact ⟨_, fm, mu, kp, Or.inl ⟨tp_none0 (Or.inl hn0), rfl⟩⟩ | exact ⟨_, fm, mu, kp, Or.inl ⟨tp_none0 (Or.inr q38), rfl⟩⟩
