/-! CALLS: prepare, reset, width -/
theorem iPu.had {dd : tD} {ks0 ns0 : Nat → Int32} {n0 : Nat} {hk hn c : Nat → Int32} {np : Nat} {pick : Nat → Int32} {cf : Nat → tCd} {g0 : Nat → Int32} {fr T : Nat} (h : iPu dd ks0 ns0 n0 hk hn c np pick cf g0 fr T) : tokS ks0 ns0 n0 ∧ ∀ i, i < n0 → hk i = ks0 i ∧ hn i = ns0 i := by
  by_cases h0 : dd.1.1 = 0
  · exact ⟨(h.2.2.2.2.2.2.1 h0).1, (h.2.2.2.2.2.2.1 h0).2.1⟩
  · exact ⟨(h.2.2.2.2.2.2.2 h0).1.2.1, (h.2.2.2.2.2.2.2 h0).1.2.2.1⟩
theorem run_fresh {dd : tD} {ks0 ns0 : Nat → Int32} {n0 : Nat} {hk hn c : Nat → Int32} {np : Nat} {pick : Nat → Int32} {cf : Nat → tCd} {g0 : Nat → Int32} {fr T : Nat} {f g of f2 : Nat → Int32} {SS : Nat → Nat} {N : Nat} {tt told : Int64} (h : iPu dd ks0 ns0 n0 hk hn c np pick cf g0 fr T) (hR : tieR f c SS of f2 N) : iRun dd f c SS of f2 N 0 0 0 0 0 tt g 0 (-1) (-1) 0 told := by
  by_cases h3 : dd.1.1 = 3
  · by_cases ht : dd.1.2.1 = 5 ∨ dd.1.2.1 = 6
    · exact Or.inr (Or.inl ⟨h3, ht, Or.inl ⟨rfl, rfl, rfl, rfl, rfl, rfl, rfl⟩⟩)
    · refine Or.inr (Or.inr ⟨h3, ht, Or.inr ⟨rfl, rfl, rfl, ?_⟩⟩)
      have h0 : ¬ dd.1.1 = 0 := by rw [h3]; decide
      obtain ⟨-, c1, c2', -⟩ := h.2.2.2.2.2.2.2 h0
      obtain ⟨⟨t1, ht1, e1⟩, hs, -⟩ := tp_tabs h.had.1 h.1
      rw [e1, colOf_nI ht1] at c1
      obtain ⟨p1, o1, q1⟩ := tie_ord (fa := bI dd.1.2.2.2.2) (hR.2 t1 ht1) c1
      rcases hs with e2 | ⟨t2, ht2, e2⟩
      · exact ⟨t1, 0, 1, 0, 0, p1, p1, ht1, e1, Or.inl ⟨e2, rfl⟩, rfl, rfl, by omega, by omega, o1, q1, fun z => absurd e2 z, Or.inl ⟨rfl, rfl, rfl, rfl⟩, Or.inl rfl⟩
      · have c3 : ¬ c t2 ≤ 0 := by
          rcases c2' with z | z
          · exact absurd (e2.symm.trans z) (nI_m1 (by omega))
          · rw [e2, colOf_nI ht2] at z; exact z
        obtain ⟨p2, o2, q2⟩ := tie_ord (fa := bI dd.1.2.2.2.2) (hR.2 t2 ht2) c3
        exact ⟨t1, t2, SS (t2 + 1) - SS t2, 0, 0, p1, p2, ht1, e1, Or.inr ⟨e2, ht2, rfl⟩, rfl, rfl, by omega, by omega, o1, q1, fun _ => ⟨o2, q2⟩, Or.inl ⟨rfl, rfl, rfl, rfl⟩, Or.inl rfl⟩
  · exact Or.inl ⟨h3, rfl, rfl, Or.inl rfl, rfl, rfl⟩
theorem fault0 {vb fi se nc g0 : Int32} {c : Nat → Int32} {ok : Bool} (h : faultS vb fi se nc g0 c ok = 0) : (vb = 0 → colOf c fi ≤ 0 ∧ ¬ g0 < 1 ∧ ¬ 6 < g0) ∧ (¬ vb = 0 → ¬ colOf c fi ≤ 0 ∧ (se = -1 ∨ ¬ colOf c se ≤ 0) ∧ ok = true ∧ (vb = 1 → nc = colOf c fi)) := by
  unfold faultS at h
  constructor
  · intro h0
    rw [if_pos h0] at h
    unfold faultC at h
    by_cases a : ¬ colOf c fi ≤ 0
    · rw [if_pos a] at h; exact absurd h (by decide)
    · rw [if_neg a] at h
      by_cases b : g0 < 1
      · rw [if_pos b] at h; exact absurd h (by decide)
      · rw [if_neg b] at h
        by_cases d : 6 < g0
        · rw [if_pos d] at h; exact absurd h (by decide)
        · exact ⟨Decidable.not_not.mp a, b, d⟩
  · intro h0
    rw [if_neg h0] at h
    by_cases a : colOf c fi ≤ 0
    · rw [if_pos a] at h; exact absurd h (by decide)
    · rw [if_neg a] at h
      by_cases b : ¬ se = -1 ∧ colOf c se ≤ 0
      · rw [if_pos b] at h; exact absurd h (by decide)
      · rw [if_neg b] at h
        by_cases d : ok = false
        · rw [if_pos d] at h; exact absurd h (by decide)
        · rw [if_neg d] at h
          refine ⟨a, ?_, by cases ok with | true => rfl | false => exact absurd rfl d, fun h1 => ?_⟩
          · by_cases z : se = -1
            · exact Or.inl z
            · exact Or.inr (fun y => b ⟨z, y⟩)
          · by_cases z : nc = colOf c fi
            · exact z
            · rw [if_pos ⟨h1, z⟩] at h; exact absurd h (by decide)
theorem step_prepare {V : xV} {A : Nat → Nat} {h : xH} (hI : INV V A h) : PairI V A h y_CB_prepare b_CB_prepare 3 y_Mo_prepare b_Mo_prepare 3 (some .int) 49 136 (EndA V A) := by
  obtain ⟨ks, ns, f, c, s, g, c2, of, f2, hk, hn, n, N, SS, st, gv, on, en, fp, sp, tt, fs, o, hA, hCl, hMo, hRf, h7, h4, hN, hcc, hv, hR, hSP⟩ := hI
  have hC0 := hCl
  obtain ⟨fx, pK, pT, fU, frd, hS, h00, hC⟩ := hCl
  refine ⟨6, _, by omega, m_CB_prepare fx pK pT fU frd hC, ?_⟩
  rintro v1 h1 ⟨an, rfl, pK', kp1, hD1⟩
  have iM1 := hMo.keep hA kp1 (by simp)
  have x1 : xFix2 h h1 := fix_of kp1 (fix_c pK.1 rfl (fix_c fU rfl fix_n))
  have no : ∀ {q e}, h q = some e → (∀ x y z, e ≠ oTo x y z) → (∀ a b d e5 e6 e7 e8 e9, e ≠ oRu a b d e5 e6 e7 e8 e9) → h1 q = some e := fun {q e} f9 n1 n2 => kp1.get f9 (nm_c (x_ne f9 pK.1 (fun z => n1 _ _ _ z.symm)) (nm_c (x_ne f9 fU (fun z => n2 _ _ _ _ _ _ _ _ z.symm)) nm_n))
  have iC1 : ∀ {st' gv' on' en' fp' sp'}, h1 (A 8) = some (oRu st' gv' on' en' fp' sp' tt (A 9)) → iCl V A h1 ks ns 0 f c s SS st' gv' on' en' fp' sp' tt g := fun {_ _ _ _ _ _} fU' => by
    obtain ⟨t1, t2, t3, t4⟩ := pT
    exact ⟨no fx (by simp) (by simp), pK', ⟨no t1 (by simp) (by simp), no t2 (by simp) (by simp), no t3 (by simp) (by simp), no t4 (by simp) (by simp)⟩, fU', no frd (by simp) (by simp), hS, h00, hC⟩
  obtain ⟨w0, w1, w2, w3, w4, w5⟩ := hA.2
  refine ⟨⟨fs, iM1.1⟩, 7, _, by omega, m_Mo_prepare iM1.1 hRf.1 hRf.2.2.2.2.1 hRf.2.2.2.2.2.1 h7 hRf.2.1 hRf.2.2.2.2.2.2.1 hRf.2.2.2.2.2.2.2 iM1.2.2.2.2.1 iM1.2.2.2.2.2.1 iM1.2.1 iM1.2.2.2.2.2.2.1 iM1.2.2.2.2.2.2.2.1 pK.2.2.2.2 hv w1 w2 w3 w4 w5, ?_⟩
  rintro v h2 ⟨fs', hk', hn', an2, rfl, fm', fhk', fhn', kp2, g0', g7', hD2⟩
  have x2 : xFix2 h1 h2 := fix_of kp2 (fun q hq => fix_mo iM1 q (by revert hq; simp only [List.mem_cons, List.not_mem_nil, or_false]; rintro (z | z | z) <;> simp [z]))
  have hM2 : iMo V A h2 fs' c2 of f2 ks ns hk' hn' o := by
    obtain ⟨m1, m2, m3, m4, m5, m6, m7, m8, m9⟩ := iM1
    exact ⟨fm', kp2.get m2 (nm_c (x_ne m2 m1 (by simp)) (nm_c (x_ne m2 m7 (by simp)) (nm_c (x_ne m2 m8 (by simp)) nm_n))), kp2.get m3 (nm_c (x_ne m3 m1 (by simp)) (nm_c (x_ne m3 m7 (by simp)) (nm_c (x_ne m3 m8 (by simp)) nm_n))), kp2.get m4 (nm_c (x_ne m4 m1 (by simp)) (nm_c (x_ne m4 m7 (by simp)) (nm_c (x_ne m4 m8 (by simp)) nm_n))), kp2.get m5 (nm_c (x_ne m5 m1 (by simp)) (nm_c (Ne.symm w1) (nm_c (Ne.symm w3) nm_n))), kp2.get m6 (nm_c (x_ne m6 m1 (by simp)) (nm_c (Ne.symm w2) (nm_c (Ne.symm w4) nm_n))), fhk', fhn', kp2.get m9 (nm_c (x_ne m9 m1 (by simp)) (nm_c (x_ne m9 m7 (by simp)) (nm_c (x_ne m9 m8 (by simp)) nm_n)))⟩
  -- the statement stays
  have stay : an2 = an → h1 (A 8) = some (oRu st gv on en fp sp tt (A 9)) → mUp [0, 7, 23, 24, 25, 26, 27, 28] fs fs' → hk' = hk → hn' = hn → EndA V A (some (.int an)) (some (.int an2)) h2 := by
    rintro rfl fU' mu rfl rfl
    exact ⟨_, rfl, rfl, ks, ns, f, c, s, g, c2, of, f2, _, _, 0, N, SS, st, gv, on, en, fp, sp, tt, fs', o, hA, (iC1 fU').keep hA kp2 (by simp), hM2, hRf.up mu (by decide), g7', mu.get h4 (by decide), hN, hcc, fun i hi => absurd hi (Nat.not_lt_zero i), hR, hSP.keep (x1.tr x2) mu (by decide)⟩
  rcases hD1 with ⟨e1, e2, fU'⟩ | ⟨dd, g', pick, cf, e1, e2, hg', hp', hcf', hr8, hk8, hD1⟩
  · rcases hD2 with ⟨-, e3, mu, a1, a2⟩ | ⟨dd', fr, T, e3, -⟩
    · exact stay (e3.trans e2.symm) fU' mu a1 a2
    · rw [e1] at e3; cases e3
  · rcases hD2 with ⟨e3, -⟩ | ⟨dd', fr, T, e3, e4, hFT, hD2⟩
    · rw [e1] at e3; cases e3
    · rw [e1] at e3
      cases e3
      have ean : an2 = an := by rw [e2, e4]; exact (fault_tie e1 hcc hg' hp' hcf').symm
      rcases hD1 with ⟨z1, fU'⟩ | ⟨z1, S, nb, pk, cd, np', po', cp', pick', fU', fS, fnb, fpk, fcd, pO, pC, hn4, h44⟩
      · rcases hD2 with ⟨-, mu, a1, a2⟩ | ⟨z2, -⟩
        · exact stay ean fU' mu a1 a2
        · exact absurd (ean.symm.trans z2) z1
      · rcases hD2 with ⟨z2, -⟩ | ⟨z2, mu, hcp, b1, b2, b3, b4, b5, b6, b7, b8, b9, b10, b11⟩
        · exact absurd (ean.trans z1) z2
        · obtain ⟨f0, f1⟩ := fault0 (e2.symm.trans z1)
          have hnp : np' ≤ 12 := by
            by_cases h4' : dd.1.2.1 = 4
            · obtain ⟨nf, nq, -, -, k1, k2, k3, -⟩ := h44 h4'; omega
            · rw [(hn4 h4').1]; omega
          have hPu : iPu dd ks ns n hk' hn' c np' pick' cf g' fr T := by
            refine ⟨e1, pK.2.2.2.2, hg', hnp, hFT, fun z => ⟨(hn4 z).1, fun j hj => ?_⟩, fun z => ⟨hv, hcp, (f0 z).2⟩, fun z => ?_⟩
            · rw [(hn4 z).2]; exact hp' j (by rw [← (hn4 z).1]; exact hj)
            · obtain ⟨k1, k2, k3, k4⟩ := f1 z
              unfold colsOK at k3
              rw [Bool.and_eq_true, decide_eq_true_eq, decide_eq_true_eq] at k3
              exact ⟨⟨hFT.1, hv, hcp, (tp_conds e1).2, hcf', k3.2⟩, k1, k2, fun j hj => by rw [← hp' j hj]; exact k3.1 j hj, k4, h44⟩
          have htold : ∃ r, fs[22]? = some (.long r) := by
            rcases hSP with ⟨-, -, -, -, a1, -⟩ | ⟨S, np, nb, pk, cd, fr, T, n0, dd, po, cp, pick, g0, ks0, ns0, cf, sta, aT, bT, row, told, -, -, -, hF, -⟩
            · exact a1
            · exact ⟨_, hF.2.2.2.2.2.2.2.2.2.2.2⟩
          obtain ⟨told, htold⟩ := htold
          have iS1 : iSt V h1 S dd np' po' cp' pick' cf g' nb pk cd := ⟨fS, fnb, fpk, fcd, pO, pC⟩
          refine ⟨_, rfl, congrArg (fun z => some (Value.int z)) ean, ks, ns, f, c, s, g, c2, of, f2, hk', hn', 0, N, SS, .ref S, 0, 0, 0, 0, 0, tt, fs', o, hA, (iC1 fU').keep hA kp2 (by simp), hM2, hRf.up mu (by decide), g7', mu.get h4 (by decide), hN, hcc, fun i hi => absurd hi (Nat.not_lt_zero i), hR, Or.inr ⟨S, np', nb, pk, cd, fr, T, n, dd, po', cp', pick', g', ks, ns, cf, 0, -1, -1, 0, told, rfl, iS1.keep x2, hPu, ⟨b6, b1, b2, b3, b4, b5, b7, b8, b9, b10, b11, mu.get htold (by decide)⟩, run_fresh hPu hR⟩⟩
theorem step_reset {V : xV} {A : Nat → Nat} {h : xH} (hI : INV V A h) : PairW V A h y_La_reset b_La_reset 3 hs_reset [.ref (A 0), .ref (A 18)] y_Mo_reset b_Mo_reset 2 (some .int) [.ref (A 10)] (EndI V A) := by
  obtain ⟨ks, ns, f, c, s, g, c2, of, f2, hk, hn, n, N, SS, st, gv, on, en, fp, sp, tt, fs, o, hA, hCl, hMo, hRf, h7, h4, hN, hcc, hv, hR, hSP⟩ := hI
  have hC0 := hCl
  have hSP0 := hSP
  obtain ⟨fx, pK, pT, fU, frd, hS, h00, hC⟩ := hCl
  rcases hSP with ⟨rfl, a1, ⟨r1, a2⟩, ⟨r2, a3⟩, -⟩ | ⟨S, np, nb, pk, cd, fr, T, n0, dd, po, cp, pick, g0, ks0, ns0, cf, sta, aT, bT, row, told, rfl, hSt, hPu, hFd, hRn⟩
  · refine ⟨1, 6, _, by omega, by omega, m_La_resetS fx (t_CB_resetS fx fU), ?_⟩
    rintro v1 h1 ⟨rfl, rfl⟩
    refine ⟨1, rfl, ⟨fs, hMo.1⟩, 1, _, by omega, m_Mo_reset hMo.1 hRf.1 a1 a3, ?_⟩
    rintro v h2 ⟨fs', fm', mu, kp, ⟨-, rfl, rfl⟩ | ⟨z, -⟩⟩
    · obtain ⟨i1, i2, i3⟩ := INV_m hA hC0 hMo hRf h7 h4 hN hcc hv hR hSP0 (fun _ _ z _ => z) fm' (mUp.rf.set (by decide)) kp
      exact ⟨0, rfl, i1, ⟨_, fm', i2.1, List.getElem?_set_self (by rw [hRf.1]; decide)⟩, fun z => absurd z (by decide)⟩
    · exact absurd rfl z
  · have hkp : ∀ (v : Option Value) (h' : xH), (v = some (Value.int gv) ∧ h' (A 8) = some (oRu (.ref S) 0 0 0 0 0 tt (A 9)) ∧ xKeep [A 8] h h') → h' (A 18) = some (xJ V 1 o) := fun v h' q => (hMo.keep hA q.2.2 (by simp)).2.2.2.2.2.2.2.2
    refine ⟨0, 0, _, by omega, by omega, m_La_reset fx hMo.2.2.2.2.2.2.2.2 (m_CB_reset fx fU) (fun v h' q => ⟨_, q.1⟩) hkp, ?_⟩
    rintro v1 h1 ⟨rfl, an, h9, ⟨q1, q2, q3⟩, u⟩
    cases q1
    have iM9 := hMo.keep hA q3 (by simp)
    have iC9 : iCl V A h9 ks ns n f c s SS (.ref S) 0 0 0 0 0 tt g := by
      obtain ⟨t1, t2, t3, t4⟩ := pT
      obtain ⟨k1, k2, k3, k4, k5⟩ := pK
      exact ⟨q3.get fx (nm_c (x_ne fx fU (by simp)) nm_n), ⟨q3.get k1 (nm_c (x_ne k1 fU (by simp)) nm_n), q3.get k2 (nm_c (x_ne k2 fU (by simp)) nm_n), q3.get k3 (nm_c (x_ne k3 fU (by simp)) nm_n), k4, k5⟩, ⟨q3.get t1 (nm_c (x_ne t1 fU (by simp)) nm_n), q3.get t2 (nm_c (x_ne t2 fU (by simp)) nm_n), q3.get t3 (nm_c (x_ne t3 fU (by simp)) nm_n), q3.get t4 (nm_c (x_ne t4 fU (by simp)) nm_n)⟩, q2, q3.get frd (nm_c (x_ne frd fU (by simp)) nm_n), hS, h00, hC⟩
    have x9 : xFix2 h h9 := fix_of q3 (fix_c fU rfl fix_n)
    obtain ⟨iC1, iM1, x1⟩ := out_w hA iC9 iM9 u
    refine ⟨0, rfl, ⟨fs, iM1.1⟩, 1, _, by omega, m_Mo_reset iM1.1 hRf.1 hFd.1 hFd.2.2.2.2.2.2.2.1, ?_⟩
    rintro v h2 ⟨fs', fm', mu, kp, ⟨z, -⟩ | ⟨-, rfl, b0, b1, b2, b3, b4, b5⟩⟩
    · exact absurd z (by decide)
    · have x2 : xFix2 h1 h2 := fix_of kp (fun q hq => fix_mo iM1 q (by revert hq; simp only [List.mem_cons, List.not_mem_nil, or_false]; rintro z; simp [z]))
      have hM2 : iMo V A h2 fs' c2 of f2 ks ns hk hn (vp_updL o 0 gv.toInt64) := by
        obtain ⟨m1, m2, m3, m4, m5, m6, m7, m8, m9⟩ := iM1
        exact ⟨fm', kp.get m2 (nm_c (x_ne m2 m1 (by simp)) nm_n), kp.get m3 (nm_c (x_ne m3 m1 (by simp)) nm_n), kp.get m4 (nm_c (x_ne m4 m1 (by simp)) nm_n), kp.get m5 (nm_c (x_ne m5 m1 (by simp)) nm_n), kp.get m6 (nm_c (x_ne m6 m1 (by simp)) nm_n), kp.get m7 (nm_c (x_ne m7 m1 (by simp)) nm_n), kp.get m8 (nm_c (x_ne m8 m1 (by simp)) nm_n), kp.get m9 (nm_c (x_ne m9 m1 (by simp)) nm_n)⟩
      have hRf2 := hRf.up mu (by decide)
      obtain ⟨d1, d2, d3, d4, d5, d6, d7, d8, d9, d10, d11, d12⟩ := hFd
      exact ⟨gv, rfl, ⟨ks, ns, f, c, s, g, c2, of, f2, hk, hn, n, N, SS, .ref S, 0, 0, 0, 0, 0, tt, fs', _, hA, iC1.keep hA kp (by simp), hM2, hRf2, mu.get h7 (by decide), mu.get h4 (by decide), hN, hcc, hv, hR, Or.inr ⟨S, np, nb, pk, cd, fr, T, n0, dd, po, cp, pick, g0, ks0, ns0, cf, 0, -1, -1, 0, told, rfl, hSt.keep ((x9.tr x1).tr x2), hPu, ⟨mu.get d1 (by decide), mu.get d2 (by decide), mu.get d3 (by decide), mu.get d4 (by decide), mu.get d5 (by decide), mu.get d6 (by decide), b1, b2, b3, b4, b5, mu.get d12 (by decide)⟩, run_fresh hPu hR⟩⟩, ⟨fs', fm', hRf2.1, b0⟩, fun _ => ⟨_, hM2.2.2.2.2.2.2.2.2, o_of⟩⟩
