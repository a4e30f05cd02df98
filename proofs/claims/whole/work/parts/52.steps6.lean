/-! CALLS: step, INSERT and DELETE and totals -/
section STEP
variable {V : xV} {A : Nat → Nat} {h : xH} {ks ns f c s g c2 of f2 hk hn : Nat → Int32} {n N : Nat} {SS : Nat → Nat} {gv on en fp sp : Int32} {tt : Int64} {fs : List Value} {o : Nat → Int64} {S np nb pk cd fr T n0 : Nat} {dd : tD} {po cp : Nat → Option Nat} {pick g0 ks0 ns0 : Nat → Int32} {cf : Nat → tCd} {sta aT bT row : Int32} {told : Int64}
theorem step_I (H : iAll V A h ks ns f c s g c2 of f2 hk hn n N SS gv on 0 fp sp tt fs o S np nb pk cd fr T n0 dd po cp pick g0 ks0 ns0 cf sta aT bT row told) (h0 : dd.1.1 = 1) : PairW V A h y_La_step b_La_step 3 hs_step [.ref (A 0), .ref (A 18)] y_Mo_step b_Mo_step 1 (some .int) [.ref (A 10)] (EndI V A) := by
  obtain ⟨hA, hCl, hMo, hRf, h7, h4, hN, hcc, hv, hR, hSt, hPu, hFd, hRn⟩ := H
  have hC0 := hCl
  obtain ⟨fx, pK, pT, fU, frd, hS, h00, hC⟩ := hCl
  obtain ⟨hv0, hh⟩ := hPu.had
  obtain ⟨⟨t1, ht1, e1⟩, -, e0⟩ := tp_tabs hv0 hPu.1
  have hsh : n0 = 2 + dd.2.1 := by
    rcases tp_shape hPu.1 with ⟨-, -, -, -, -, e⟩ | ⟨i, -, e3, -, -, -, -, e⟩ | ⟨k, -, -, -, -, -, -, e⟩ | ⟨r, Q, k, ls, -, -, -, -, -, -, -, -, e⟩
    · rw [e] at h0; exact absurd (show (0 : Int32) = 1 from h0) (by decide)
    · rw [e3, e]
    · rw [e] at h0; exact absurd (show (2 : Int32) = 1 from h0) (by decide)
    · rw [e] at h0; exact absurd (show (3 : Int32) = 1 from h0) (by decide)
  have h3 : ¬ dd.1.1 = 3 := by rw [h0]; decide
  have hn60 := hPu.2.1
  obtain ⟨-, c1, -, -, c5, -⟩ := hPu.2.2.2.2.2.2.2 (by rw [h0]; decide)
  have c5 := c5 h0
  rw [e1, colOf_nI ht1] at c1 c5
  obtain ⟨cN, hc6, ecN⟩ := hC t1 ht1
  have hd : dd.2.1 = cN := (nI_eq (by omega) (by omega)).mp (c5.trans ecN)
  have hcp : 0 < cN := by
    rcases Nat.eq_zero_or_pos cN with z | z
    · rw [ecN, z] at c1; exact absurd (by decide) c1
    · exact z
  have hg : ∀ k, k < cN → g0 k = hn (2 + k) := fun k hk => by rw [(hh (2 + k) (by omega)).2, hPu.2.2.1 k (by omega) (by omega)]
  have hg0 : hn 2 = g0 0 := (hg 0 hcp).symm
  have hv9 : hn 0 = 1 := by rw [(hh 0 (by omega)).2, ← e0, h0]
  have hst : sta = 0 ∧ row = 0 ∧ gv = 0 ∧ on = 0 := by
    rcases hRn with ⟨-, a1, a2, -, a3, a4⟩ | ⟨z, -⟩ | ⟨z, -⟩
    · exact ⟨a3, a4, a2, a1⟩
    · exact absurd z h3
    · exact absurd z h3
  obtain ⟨rfl, rfl, rfl, rfl⟩ := hst
  have hall := tie_all hR hS h00
  have fS := hSt.1
  rw [h0, e1] at fS
  refine step_go hA hC0 hMo (m_Ru_advanceI fS hSt.2.1 pT hS ht1 fU) ?_
  rintro v h9 ⟨p, an, f', s', SS', rfl, hp, pT', hS', fU', kp9, hD⟩
  have no : ∀ {q e}, h q = some e → (∀ z, e ≠ xI V 2400 z) → (∀ z, e ≠ xI V 11 z) → (∀ a b d e5 e6 e7 e8 e9, e ≠ oRu a b d e5 e6 e7 e8 e9) → h9 q = some e := fun {q e} f9 n1 n3 n2 => kp9.get f9 (nm_c (x_ne f9 fU (fun z => n2 _ _ _ _ _ _ _ _ z.symm)) (nm_c (x_ne f9 pT.2.1 (fun z => n1 _ z.symm)) (nm_c (x_ne f9 pT.2.2.2 (fun z => n3 _ z.symm)) nm_n)))
  have h00' : SS' 0 = 0 := by
    rcases hD with ⟨-, -, -, rfl⟩ | ⟨-, -, -, -, rfl⟩ | ⟨-, -, -, rfl, -⟩
    · exact h00
    · exact h00
    · unfold incB; rw [if_neg (by omega)]; exact h00
  have iC9 : iCl V A h9 ks ns n f' c s' SS' (.ref S) 0 0 1 fp sp tt g := by
    obtain ⟨k1, k2, k3, k4, k5⟩ := pK
    exact ⟨no fx (by simp) (by simp) (by simp), ⟨no k1 (by simp) (by simp) (by simp), no k2 (by simp) (by simp) (by simp), no k3 (by simp) (by simp) (by simp), k4, k5⟩, pT', fU', no frd (by simp) (by simp) (by simp), hS', h00', hC⟩
  refine ⟨an, f', c, s', SS', 0, 0, 1, fp, sp, tt, g, _, rfl, iC9, kp9, by simp, fun h1 o' iC1 iM1 x1 ho => ?_⟩
  obtain ⟨d1, d2, d3, d4, d5, d6, d7, d8, d9, d10, d11, d12⟩ := hFd
  rw [e1] at d2
  refine ⟨3, _, by omega, m_Mo_stepI iM1.1 hRf.1 d1 d7 hRf.2.1 hRf.2.2.2.2.2.2.2 hRf.2.2.1 hRf.2.2.2.1 h4 d2 iM1.2.1 iM1.2.2.2.2.2.2.2.1 iM1.2.2.1 iM1.2.2.2.1 hN ht1 ((hcc t1 ht1).trans ecN) hc6 hv9, ?_⟩
  rintro v h2 ⟨fs', of', f3, an2, rfl, fm', mu, fof', fce', kp, b0, b1, b2, hD2⟩
  have hhas := tie_has (hR.2 t1 ht1) c1 hp
  rw [← hg0] at hhas
  have hres : an2 = an ∧ ∃ N', fs'[4]? = some (.int (nI N')) ∧ N' ≤ 400 ∧ tieR f' c SS' of' f3 N' := by
    rw [← hg0] at hD
    rcases hD with ⟨z1, rfl, rfl, rfl⟩ | ⟨z1, z2, rfl, rfl, rfl⟩ | ⟨z1, z2, rfl, rfl, hT, hO⟩
    · rcases hD2 with ⟨-, rfl, rfl, rfl, b4⟩ | ⟨y, -⟩ | ⟨y, -⟩
      · exact ⟨rfl, N, b4, hN, hR⟩
      · exact absurd (hhas.mpr z1) y
      · exact absurd (hhas.mpr z1) y
    · rcases hD2 with ⟨y, -⟩ | ⟨-, -, rfl, rfl, rfl, b4⟩ | ⟨-, y, -⟩
      · exact absurd (hhas.mp y) z1
      · exact ⟨rfl, N, b4, hN, hR⟩
      · omega
    · rcases hD2 with ⟨y, -⟩ | ⟨-, y, -⟩ | ⟨-, y, rfl, rfl, y1, y2, b4⟩
      · exact absurd (hhas.mp y) z1
      · omega
      · refine ⟨rfl, N + 1, b4, by omega, tie_ins hR ht1 c1 ecN hc6 hp (by rw [← hg0]; exact z1) (fun t ht htt => ?_) hS'.2.1 hT hO y1 y2 hg⟩
        unfold incB
        by_cases a1 : t1 < t
        · rw [if_pos a1, if_pos (by omega)]; omega
        · rw [if_neg a1, if_neg (by omega)]
  obtain ⟨rfl, N', b4, hN', hR'⟩ := hres
  exact step_fin hA iC1 iM1 x1 ho (iM1.obj2 fm' fof' fce' kp) kp mem3 hRf mu (by decide) h7 b4 hN' hcc hv hR' b0 hSt hPu ⟨mu.get d1 (by decide), by rw [e1]; exact mu.get d2 (by decide), mu.get d3 (by decide), mu.get d4 (by decide), mu.get d5 (by decide), mu.get d6 (by decide), b2, mu.get d8 (by decide), mu.get d9 (by decide), mu.get d10 (by decide), b1, mu.get d12 (by decide)⟩ (Or.inl ⟨h3, rfl, rfl, Or.inr rfl, rfl, rfl⟩)
theorem step_D (H : iAll V A h ks ns f c s g c2 of f2 hk hn n N SS gv on 0 fp sp tt fs o S np nb pk cd fr T n0 dd po cp pick g0 ks0 ns0 cf sta aT bT row told) (h0 : dd.1.1 = 2) : PairW V A h y_La_step b_La_step 3 hs_step [.ref (A 0), .ref (A 18)] y_Mo_step b_Mo_step 1 (some .int) [.ref (A 10)] (EndI V A) := by
  obtain ⟨hA, hCl, hMo, hRf, h7, h4, hN, hcc, hv, hR, hSt, hPu, hFd, hRn⟩ := H
  have hC0 := hCl
  obtain ⟨fx, pK, pT, fU, frd, hS, h00, hC⟩ := hCl
  obtain ⟨hv0, hh⟩ := hPu.had
  obtain ⟨⟨t1, ht1, e1⟩, -, e0⟩ := tp_tabs hv0 hPu.1
  have h2n := tp_two hPu.1
  have hsh : dd.1.2.2.2.1 = -1 := by
    rcases tp_shape hPu.1 with ⟨-, -, -, -, -, e⟩ | ⟨i, -, e3, -, -, -, -, e⟩ | ⟨k, -, -, -, -, -, -, e⟩ | ⟨r, Q, k, ls, -, -, -, -, -, -, -, -, e⟩
    · rw [e] at h0; exact absurd (show (0 : Int32) = 2 from h0) (by decide)
    · rw [e] at h0; exact absurd (show (1 : Int32) = 2 from h0) (by decide)
    · rw [e]
    · rw [e] at h0; exact absurd (show (3 : Int32) = 2 from h0) (by decide)
  have h3 : ¬ dd.1.1 = 3 := by rw [h0]; decide
  obtain ⟨hc, c1, -⟩ := hPu.2.2.2.2.2.2.2 (by rw [h0]; decide)
  have htk := hc.toks
  rw [hsh] at htk
  have hin := hc.ins
  rw [hsh, colOf_m1, e1, colOf_nI ht1] at hc
  rw [e1, colOf_nI ht1] at c1
  have hkc := (tp_conds hPu.1).1
  have hv9 : hn 0 = 2 := by rw [(hh 0 (by omega)).2, ← e0, h0]
  have hst : sta = 0 ∧ row = 0 ∧ gv = 0 ∧ on = 0 := by
    rcases hRn with ⟨-, a1, a2, -, a3, a4⟩ | ⟨z, -⟩ | ⟨z, -⟩
    · exact ⟨a3, a4, a2, a1⟩
    · exact absurd z h3
    · exact absurd z h3
  obtain ⟨rfl, rfl, rfl, rfl⟩ := hst
  have fS := hSt.1
  rw [h0, e1] at fS
  refine step_go hA hC0 hMo (m_Ru_advanceD fS hSt.2.2.1 hSt.2.2.2.1 hPu.2.2.2.1 hkc hSt.2.2.2.2.1 hSt.2.2.2.2.2 pT hS ht1 frd hin fU) ?_
  rintro v h9 ⟨rfl, f', s', SS', g', pT', hS', e00, hT, hO, frd', hrd, fU', kp9⟩
  have no : ∀ {q e}, h q = some e → (∀ z, e ≠ xI V 2400 z) → (∀ z, e ≠ xI V 11 z) → (∀ z, e ≠ xI V 16 z) → (∀ a b d e5 e6 e7 e8 e9, e ≠ oRu a b d e5 e6 e7 e8 e9) → h9 q = some e := fun {q e} f9 n1 n3 n4 n2 => kp9.get f9 (nm_c (x_ne f9 fU (fun z => n2 _ _ _ _ _ _ _ _ z.symm)) (nm_c (x_ne f9 pT.2.1 (fun z => n1 _ z.symm)) (nm_c (x_ne f9 pT.2.2.2 (fun z => n3 _ z.symm)) (nm_c (x_ne f9 frd (fun z => n4 _ z.symm)) nm_n))))
  have iC9 : iCl V A h9 ks ns n f' c s' SS' (.ref S) 0 0 1 fp sp tt g' := by
    obtain ⟨k1, k2, k3, k4, k5⟩ := pK
    exact ⟨no fx (by simp) (by simp) (by simp) (by simp), ⟨no k1 (by simp) (by simp) (by simp) (by simp), no k2 (by simp) (by simp) (by simp) (by simp), no k3 (by simp) (by simp) (by simp) (by simp), k4, k5⟩, pT', fU', frd', hS', e00.trans h00, hC⟩
  refine ⟨0, f', c, s', SS', 0, 0, 1, fp, sp, tt, g', _, rfl, iC9, kp9, by simp, fun h1 o' iC1 iM1 x1 ho => ?_⟩
  obtain ⟨d1, d2, d3, d4, d5, d6, d7, d8, d9, d10, d11, d12⟩ := hFd
  rw [e1] at d2
  refine ⟨4, _, by omega, m_Mo_stepD iM1.1 hRf.1 d1 d7 hRf.2.2.2.2.2.2.1 hRf.2.2.2.2.2.2.2 hRf.2.2.1 hRf.2.2.2.1 h4 d2 d4 d5 iM1.2.2.2.2.2.2.1 iM1.2.2.2.2.2.2.2.1 iM1.2.2.1 iM1.2.2.2.1 hN ht1 hPu.2.2.2.2.1 htk hv9, ?_⟩
  rintro v h2 ⟨fs', of', f3, N', rfl, fm', mu, fof', fce', kp, b0, b1, b2, b4, hN', hM⟩
  have hag : ∀ (F r : Nat → Int32), (∀ k, k < 6 → F k = r k) → mHR hk hn fr dd.2.2.2.2.1 (cut (c t1) r) (cut (c t1) r) = cdsVal dd.2.2.2.2.1 cf F := fun F r hF => by
    refine (hc.val ⟨fun k hk hc => ?_, fun k hk hc => absurd hc (nI_pos (by omega))⟩).symm
    unfold cut
    rw [if_pos hc, hF k hk]
  have hR' : tieR f' c SS' of' f3 N' := by
    refine tie_del (Q := fun r => !mHR hk hn fr dd.2.2.2.2.1 r r) hR ht1 c1 hS'.2.1 hT hO hM (fun r hr => ?_) (fun r hr => ?_) (fun r hr => ?_)
    · unfold mKeep; rw [decide_eq_false hr]; rfl
    · unfold mKeep
      rw [decide_eq_true hr, Bool.true_and]
      show (!_) = !_
      rw [hag r.2 r.2 (fun _ _ => rfl)]
      exact congrArg _ (hc.val ⟨fun k hk hc => rfl, fun k hk hc => absurd hc (nI_pos (by omega))⟩).symm
    · show (!_) = !_
      rw [hag (mix r g) r (fun k hk => by unfold mix; rw [if_pos hk])]
  exact step_fin hA iC1 iM1 x1 ho (iM1.obj2 fm' fof' fce' kp) kp mem3 hRf mu (by decide) h7 b4 (by omega) hcc hv hR' b0 hSt hPu ⟨mu.get d1 (by decide), by rw [e1]; exact mu.get d2 (by decide), mu.get d3 (by decide), mu.get d4 (by decide), mu.get d5 (by decide), mu.get d6 (by decide), b2, mu.get d8 (by decide), mu.get d9 (by decide), mu.get d10 (by decide), b1, mu.get d12 (by decide)⟩ (Or.inl ⟨h3, rfl, rfl, Or.inr rfl, rfl, rfl⟩)
theorem step_T (H : iAll V A h ks ns f c s g c2 of f2 hk hn n N SS gv on 0 fp sp tt fs o S np nb pk cd fr T n0 dd po cp pick g0 ks0 ns0 cf sta aT bT row told) (h3 : dd.1.1 = 3) (hT : dd.1.2.1 = 5 ∨ dd.1.2.1 = 6) : PairW V A h y_La_step b_La_step 3 hs_step [.ref (A 0), .ref (A 18)] y_Mo_step b_Mo_step 1 (some .int) [.ref (A 10)] (EndI V A) := by
  obtain ⟨hA, hCl, hMo, hRf, h7, h4, hN, hcc, hv, hR, hSt, hPu, hFd, hRn⟩ := H
  have hC0 := hCl
  obtain ⟨fx, pK, pT, fU, frd, hS, h00, hC⟩ := hCl
  obtain ⟨hv0, hh⟩ := hPu.had
  obtain ⟨⟨t1, ht1, e1⟩, hs2, e0⟩ := tp_tabs hv0 hPu.1
  have h2n := tp_two hPu.1
  obtain ⟨hc, c1, c2', c4, -⟩ := hPu.2.2.2.2.2.2.2 (by rw [h3]; decide)
  have hkc := (tp_conds hPu.1).1
  obtain ⟨a0, hl⟩ := hPu.list h3
  obtain ⟨d1, d2, d3, d4, d5, d6, d7, d8, d9, d10, d11, d12⟩ := hFd
  have hfo : hk 1 = 0 ∧ ¬ hn 1 = 4 := by
    rcases hl with ⟨l1, -⟩ | ⟨l1, l2, l3⟩ | ⟨l1, l2, l3, -⟩ | ⟨l1, -⟩
    · rw [l1] at hT; exact absurd hT (by decide)
    · exact ⟨l2, by rw [l3]; decide⟩
    · exact ⟨l2, by rw [l3]; decide⟩
    · rw [l1] at hT; exact absurd hT (by decide)
  have hcase : (gv = 0 ∧ on = 0 ∧ fp = 0 ∧ sp = 0 ∧ sta = 0 ∧ row = 0) ∨ (gv = 1 ∧ on = 1 ∧ sta = 1 ∧ row = 1 ∧ told = tt) := by
    rcases hRn with ⟨z, -⟩ | ⟨-, -, ⟨z1, z2, -, z3, z4, z5, z6⟩ | ⟨z1, z2, -, z3, z4, z5⟩ | ⟨-, -, z, -⟩⟩ | ⟨-, z, -⟩
    · exact absurd h3 z
    · exact Or.inl ⟨z1, z2, z3, z4, z5, z6⟩
    · exact Or.inr ⟨z1, z2, z3, z4, z5⟩
    · exact absurd z (by decide)
    · exact absurd hT z
  rcases hcase with ⟨rfl, rfl, rfl, rfl, rfl, rfl⟩ | ⟨rfl, rfl, rfl, rfl, rfl⟩
  · -- the total is made
    have c1' := c1
    rw [e1, colOf_nI ht1] at c1'
    obtain ⟨p1, o1, q1⟩ := tie_ord (fa := bI dd.1.2.2.2.2) (hR.2 t1 ht1) c1'
    have hsec : ∃ t2 n2 p2, ((dd.1.2.2.2.1 = -1 ∧ n2 = 1) ∨ (dd.1.2.2.2.1 = nI t2 ∧ t2 < 10 ∧ n2 = SS (t2 + 1) - SS t2)) ∧ (¬ dd.1.2.2.2.1 = -1 → ordS of (fun k => f2 (k * 6)) (bI dd.1.2.2.2.2) N (nI t2) n2 p2 ∧ ∀ b, b < n2 → cut (c t2) (row6 f2 (p2 b * 6)) = cut (c t2) (row6 f ((SS t2 + plc (bI dd.1.2.2.2.2) n2 b) * 6))) := by
      rcases hs2 with e2 | ⟨t2, ht2, e2⟩
      · exact ⟨0, 1, p1, Or.inl ⟨e2, rfl⟩, fun z => absurd e2 z⟩
      · have c3 : ¬ c t2 ≤ 0 := by
          rcases c2' with z | z
          · exact absurd (e2.symm.trans z) (nI_m1 (by omega))
          · rw [e2, colOf_nI ht2] at z; exact z
        obtain ⟨p2, o2, q2⟩ := tie_ord (fa := bI dd.1.2.2.2.2) (hR.2 t2 ht2) c3
        exact ⟨t2, _, p2, Or.inr ⟨e2, ht2, rfl⟩, fun _ => ⟨o2, q2⟩⟩
    obtain ⟨t2, n2, p2, e2, o2⟩ := hsec
    have hpk : dd.1.2.1 = 5 ∨ (0 < np ∧ vp_in (pick 0) 16) := by
      rcases hT with z | z
      · exact Or.inl z
      · rcases hl with ⟨l1, -⟩ | ⟨l1, -⟩ | ⟨l1, l2, l3, l4, l5, l6, l7⟩ | ⟨l1, -⟩
        · rw [l1] at z; exact absurd z (by decide)
        · exact Or.inl l1
        · have hnl := hPu.2.2.2.2.2.1 (by rw [l1]; decide)
          have e5 : pick 0 = ns0 (dd.2.2.2.1 + 0) := hnl.2 0 (by omega)
          have hb := (tp_cols hPu.1).1 0 (by omega)
          have hv' := hv0 _ hb.1
          rw [hb.2, ← e5] at hv'
          exact Or.inr ⟨by omega, (op_in (Or.inl rfl) hv').resolve_left (by decide)⟩
        · rw [l1] at z; exact absurd z (by decide)
    have hsm : hn 1 = 5 ∨ mTok hk hn dd.1.2.2.2.1 2 := by
      rcases hl with ⟨l1, -⟩ | ⟨l1, l2, l3⟩ | ⟨l1, l2, l3, l4, l5, l6, l7⟩ | ⟨l1, -⟩
      · rw [l1] at hT; exact absurd hT (by decide)
      · exact Or.inl l3
      · have hnl := hPu.2.2.2.2.2.1 (by rw [l1]; decide)
        have e5 : pick 0 = ns0 (dd.2.2.2.1 + 0) := hnl.2 0 (by omega)
        have hth := c4 0 (by omega)
        rw [← e5] at hth
        have hb := (tp_cols hPu.1).1 0 (by omega)
        have hv' := hv0 _ hb.1
        rw [hb.2, ← e5] at hv'
        exact Or.inr (tok_in (c := c) (a1 := dd.1.2.2.1) (Or.inl l5) (by rw [l5, l6]; exact hv') (by rw [l5, l6]; exact hth))
      · rw [l1] at hT; exact absurd hT (by decide)
    have fS := hSt.1
    rw [h3, e1] at fS
    refine step_go hA hC0 hMo (m_Ru_advanceT (gv := 0) fS hSt.2.2.1 hSt.2.2.2.1 hPu.2.2.2.1 hkc hSt.2.2.2.2.1 hSt.2.2.2.2.2 pT hS ht1 e2 frd hc.ins fU (by decide) hT hpk) ?_
    rintro v h9 (⟨z, -⟩ | ⟨-, rfl, g', fp', sp', kp9, frd', hrd, fU'⟩)
    · exact absurd z (by decide)
    · rw [total_tie (g := g) hPu h3 hT ht1 e1 e2 o1 q1 o2] at fU'
      have no : ∀ {q e}, h q = some e → (∀ z, e ≠ xI V 16 z) → (∀ a b d e5 e6 e7 e8 e9, e ≠ oRu a b d e5 e6 e7 e8 e9) → h9 q = some e := fun {q e} f9 n4 n2 => kp9.get f9 (nm_c (x_ne f9 fU (fun z => n2 _ _ _ _ _ _ _ _ z.symm)) (nm_c (x_ne f9 frd (fun z => n4 _ z.symm)) nm_n))
      have iC9 : iCl V A h9 ks ns n f c s SS (.ref S) 1 1 0 fp' sp' (mTold hk hn of f2 dd.1.2.2.1 dd.1.2.2.2.1 fr dd.2.2.2.2.1 N) g' := by
        obtain ⟨k1, k2, k3, k4, k5⟩ := pK
        obtain ⟨t1, t2, t3, t4⟩ := pT
        exact ⟨no fx (by simp) (by simp), ⟨no k1 (by simp) (by simp), no k2 (by simp) (by simp), no k3 (by simp) (by simp), k4, k5⟩, ⟨no t1 (by simp) (by simp), no t2 (by simp) (by simp), no t3 (by simp) (by simp), no t4 (by simp) (by simp)⟩, fU', frd', hS, h00, hC⟩
      refine ⟨1, f, c, s, SS, 1, 1, 0, fp', sp', _, g', _, rfl, iC9, kp9, by simp, fun h1 o' iC1 iM1 x1 ho => ?_⟩
      refine ⟨5, _, by omega, m_Mo_stepT iM1.1 hRf.1 d1 d7 hRf.2.2.2.2.2.2.1 hRf.2.2.2.2.2.2.2 hRf.2.2.1 hRf.2.2.2.1 h4 d2 d3 d4 d5 d8 iM1.2.2.2.2.2.2.1 iM1.2.2.2.2.2.2.2.1 iM1.2.2.1 iM1.2.2.2.1 hN hPu.2.2.2.2.1 hc.toks hsm hfo a0, ?_⟩
      rintro v h2 ⟨rfl, fs', fm', mu, kp, b0, b22, b17, b21, b18⟩
      exact step_fin hA iC1 iM1 x1 ho (iM1.obj fm' kp) kp mem1 hRf mu (by decide) h7 (mu.get h4 (by decide)) hN hcc hv hR b0 hSt hPu ⟨mu.get d1 (by decide), mu.get d2 (by decide), mu.get d3 (by decide), mu.get d4 (by decide), mu.get d5 (by decide), mu.get d6 (by decide), b17, b18, mu.get d9 (by decide), mu.get d10 (by decide), b21, b22⟩ (Or.inr (Or.inl ⟨h3, hT, Or.inr (Or.inl ⟨rfl, rfl, rfl, rfl, rfl, rfl⟩)⟩))
  · -- it was given
    have fS := hSt.1
    rw [h3] at fS
    refine step_go hA hC0 hMo (m_Ru_advanceT2 fS fU hT) ?_
    rintro v h9 ⟨rfl, fU', kp9⟩
    have no : ∀ {q e}, h q = some e → (∀ a b d e5 e6 e7 e8 e9, e ≠ oRu a b d e5 e6 e7 e8 e9) → h9 q = some e := fun {q e} f9 n2 => kp9.get f9 (nm_c (x_ne f9 fU (fun z => n2 _ _ _ _ _ _ _ _ z.symm)) nm_n)
    have iC9 : iCl V A h9 ks ns n f c s SS (.ref S) 1 0 1 fp sp told g := by
      obtain ⟨k1, k2, k3, k4, k5⟩ := pK
      obtain ⟨t1, t2, t3, t4⟩ := pT
      exact ⟨no fx (by simp), ⟨no k1 (by simp), no k2 (by simp), no k3 (by simp), k4, k5⟩, ⟨no t1 (by simp), no t2 (by simp), no t3 (by simp), no t4 (by simp)⟩, fU', no frd (by simp), hS, h00, hC⟩
    refine ⟨0, f, c, s, SS, 1, 0, 1, fp, sp, told, g, _, rfl, iC9, kp9, by simp, fun h1 o' iC1 iM1 x1 ho => ?_⟩
    refine ⟨0, _, by omega, m_Mo_stepE iM1.1 hRf.1 d1 d7, ?_⟩
    rintro v h2 ⟨rfl, fs', fm', mu, kp, b0, b1⟩
    exact step_fin hA iC1 iM1 x1 ho (iM1.obj fm' kp) kp mem1 hRf mu (by decide) h7 (mu.get h4 (by decide)) hN hcc hv hR b0 hSt hPu ⟨mu.get d1 (by decide), mu.get d2 (by decide), mu.get d3 (by decide), mu.get d4 (by decide), mu.get d5 (by decide), mu.get d6 (by decide), mu.get d7 (by decide), mu.get d8 (by decide), mu.get d9 (by decide), mu.get d10 (by decide), b1, mu.get d12 (by decide)⟩ (Or.inr (Or.inl ⟨h3, hT, Or.inr (Or.inr ⟨rfl, rfl, rfl, rfl, rfl⟩)⟩))
/-- a SELECT of rows -/
theorem step_R (H : iAll V A h ks ns f c s g c2 of f2 hk hn n N SS gv on 0 fp sp tt fs o S np nb pk cd fr T n0 dd po cp pick g0 ks0 ns0 cf sta aT bT row told) (h3 : dd.1.1 = 3) (hT : ¬ (dd.1.2.1 = 5 ∨ dd.1.2.1 = 6)) : PairW V A h y_La_step b_La_step 3 hs_step [.ref (A 0), .ref (A 18)] y_Mo_step b_Mo_step 1 (some .int) [.ref (A 10)] (EndI V A) := by
  obtain ⟨hA, hCl, hMo, hRf, h7, h4, hN, hcc, hv, hR, hSt, hPu, hFd, hRn⟩ := H
  have hC0 := hCl
  obtain ⟨fx, pK, pT, fU, frd, hS, h00, hC⟩ := hCl
  obtain ⟨hc, c1, c2', c4, -⟩ := hPu.2.2.2.2.2.2.2 (by rw [h3]; decide)
  have hkc := (tp_conds hPu.1).1
  obtain ⟨a0, hl⟩ := hPu.list h3
  obtain ⟨d1, d2, d3, d4, d5, d6, d7, d8, d9, d10, d11, d12⟩ := hFd
  have hfo : ¬ (hk 1 = 0 ∧ ¬ hn 1 = 4) := by
    rcases hl with ⟨l1, l2, l3⟩ | ⟨l1, -⟩ | ⟨l1, -⟩ | ⟨l1, l2, -⟩
    · exact fun z => z.2 l3
    · exact absurd (Or.inl l1) hT
    · exact absurd (Or.inr l1) hT
    · exact fun z => absurd (l2.symm.trans z.1) (by decide)
  have hcase : sta = 0 ∧ row = on ∧ iCur dd f c SS of f2 N on fp sp aT bT g := by
    rcases hRn with ⟨z, -⟩ | ⟨-, z, -⟩ | ⟨-, -, ⟨z, -⟩ | ⟨-, z1, z2, z3⟩⟩
    · exact absurd h3 z
    · exact absurd z hT
    · exact absurd z (by decide)
    · exact ⟨z1, z2, z3⟩
  obtain ⟨rfl, -, t1, t2, n2, i, j, p1, p2, ht1, e1, e2, rfl, rfl, hi, hj, o1, q1, o2, hcu, -⟩ := hcase
  have fS := hSt.1
  rw [h3, e1] at fS
  have d2' := d2
  rw [e1] at d2'
  have hs2 : (dd.1.2.2.2.1 = -1 ∧ n2 = 1) ∨ (¬ dd.1.2.2.2.1 = -1 ∧ ordS of (fun k => f2 (k * 6)) (bI dd.1.2.2.2.2) N dd.1.2.2.2.1 n2 p2) := by
    rcases e2 with z | z
    · exact Or.inl z
    · have hne : ¬ dd.1.2.2.2.1 = -1 := by rw [z.1]; exact nI_m1 (by omega)
      refine Or.inr ⟨hne, ?_⟩
      have := (o2 hne).1
      rw [← z.1] at this
      exact this
  have hgd : ∀ a b, a < SS (t1 + 1) - SS t1 → b < n2 → _ := fun a b ha hb => gd_tie (g := g) (a := a) (b := b) (q1 := p1 a) (q2 := p2 b) hc ht1 e1 e2 (q1 a ha) (fun z => (o2 z).2 b hb)
  refine step_go hA hC0 hMo (m_Ru_advanceR fS hSt.2.2.1 hSt.2.2.2.1 hPu.2.2.2.1 hkc hSt.2.2.2.2.1 hSt.2.2.2.2.2 pT hS ht1 e2 frd hc.ins fU hi hj hT) ?_
  rintro v h9 ⟨g', kp9, frd', hrd, hD⟩
  have no : ∀ {q e}, h q = some e → (∀ z, e ≠ xI V 16 z) → (∀ a b d e5 e6 e7 e8 e9, e ≠ oRu a b d e5 e6 e7 e8 e9) → h9 q = some e := fun {q e} f9 n4 n2 => kp9.get f9 (nm_c (x_ne f9 fU (fun z => n2 _ _ _ _ _ _ _ _ z.symm)) (nm_c (x_ne f9 frd (fun z => n4 _ z.symm)) nm_n))
  have iC9 : ∀ {gv' on' en' fp' sp'}, h9 (A 8) = some (oRu (.ref S) gv' on' en' fp' sp' tt (A 9)) → iCl V A h9 ks ns n f c s SS (.ref S) gv' on' en' fp' sp' tt g' := fun {_ _ _ _ _} fU' => by
    obtain ⟨k1, k2, k3, k4, k5⟩ := pK
    obtain ⟨t1, t2, t3, t4⟩ := pT
    exact ⟨no fx (by simp) (by simp), ⟨no k1 (by simp) (by simp), no k2 (by simp) (by simp), no k3 (by simp) (by simp), k4, k5⟩, ⟨no t1 (by simp) (by simp), no t2 (by simp) (by simp), no t3 (by simp) (by simp), no t4 (by simp) (by simp)⟩, fU', frd', hS, h00, hC⟩
  have mod : ∀ {h1 : xH} {o' : Nat → Int64}, iMo V A h1 fs c2 of f2 ks ns hk hn o' → _ := fun {h1 o'} iM1 => m_Mo_stepR (bb := dd.2.2.2.2.2) iM1.1 hRf.1 d1 d7 hRf.2.2.2.2.2.2.1 hRf.2.2.2.2.2.2.2 hRf.2.2.1 hRf.2.2.2.1 h4 d6 d2' d3 d4 d5 d9 d10 d8 iM1.2.2.2.2.2.2.1 iM1.2.2.2.2.2.2.2.1 iM1.2.2.1 iM1.2.2.2.1 hN hPu.2.2.2.2.1 hc.toks o1 hs2 hcu hfo a0
  rcases hD with ⟨rfl, hbad, i', j', fU'⟩ | ⟨rfl, i', j', hi', hj', hb', hbad, hG, hg', fU'⟩
  · refine ⟨0, f, c, s, SS, gv, 0, 1, nI i', nI j', tt, g', _, rfl, iC9 fU', kp9, by simp, fun h1 o' iC1 iM1 x1 ho => ?_⟩
    refine ⟨4, _, by omega, mod iM1, ?_⟩
    rintro v h2 ⟨fs', fm', mu, kp, b0, ⟨rfl, -, b17, b21, b18, aT', bT', b19, b20⟩ | ⟨i2, j2, aT', bT', rfl, hi2, hj2, hb2, hbad2, hG2, -⟩⟩
    · exact step_fin hA iC1 iM1 x1 ho (iM1.obj fm' kp) kp mem1 hRf mu (by decide) h7 (mu.get h4 (by decide)) hN hcc hv hR b0 hSt hPu ⟨mu.get d1 (by decide), mu.get d2 (by decide), mu.get d3 (by decide), mu.get d4 (by decide), mu.get d5 (by decide), mu.get d6 (by decide), b17, b18, b19, b20, b21, mu.get d12 (by decide)⟩ (Or.inr (Or.inr ⟨h3, hT, Or.inl ⟨rfl, rfl, rfl, rfl⟩⟩))
    · refine absurd (first_none hi2 hj2 hb2 hbad ?_) id
      exact (hgd i2 j2 hi2 hj2).2.trans hG2
  · refine ⟨1, f, c, s, SS, gv + 1, 1, 0, nI i', nI (j' + 1), tt, g', _, rfl, iC9 fU', kp9, by simp, fun h1 o' iC1 iM1 x1 ho => ?_⟩
    refine ⟨4, _, by omega, mod iM1, ?_⟩
    rintro v h2 ⟨fs', fm', mu, kp, b0, ⟨rfl, hbad2, -⟩ | ⟨i2, j2, aT', bT', rfl, hi2, hj2, hb2, hbad2, hG2, hcu2, b19, b20, b17, b21, b18⟩⟩
    · refine absurd (first_none hi' hj' hb' hbad2 ?_) id
      exact (hgd i' j' hi' hj').2.symm.trans hG
    · have hbad3 := bad_cong (G' := fun a b => mHR hk hn fr dd.2.2.2.2.1 (row6 f2 (p1 a * 6)) (row6 f2 (p2 b * 6))) (fun a b ha hb => (hgd a b ha hb).2) hbad
      obtain ⟨rfl, rfl⟩ := first_eq hi' hj' hi2 hj2 hb' hb2 hbad3 hbad2 ((hgd i' j' hi' hj').2.symm.trans hG) hG2
      refine step_fin hA iC1 iM1 x1 ho (iM1.obj fm' kp) kp mem1 hRf mu (by decide) h7 (mu.get h4 (by decide)) hN hcc hv hR b0 hSt hPu ⟨mu.get d1 (by decide), mu.get d2 (by decide), mu.get d3 (by decide), mu.get d4 (by decide), mu.get d5 (by decide), mu.get d6 (by decide), b17, b18, b19, b20, b21, mu.get d12 (by decide)⟩ (Or.inr (Or.inr ⟨h3, hT, Or.inr ⟨rfl, rfl, rfl, t1, t2, n2, i', j' + 1, p1, p2, ht1, e1, e2, rfl, rfl, by omega, by omega, o1, q1, o2, hcu2, Or.inr ⟨rfl, j', rfl, ?_⟩⟩⟩))
      rw [hg']
      exact (hgd i' j' hi' hj').1
end STEP
theorem step_step {V : xV} {A : Nat → Nat} {h : xH} (hI : INV V A h) : PairW V A h y_La_step b_La_step 3 hs_step [.ref (A 0), .ref (A 18)] y_Mo_step b_Mo_step 1 (some .int) [.ref (A 10)] (EndI V A) := by
  obtain ⟨ks, ns, f, c, s, g, c2, of, f2, hk, hn, n, N, SS, st, gv, on, en, fp, sp, tt, fs, o, hA, hCl, hMo, hRf, h7, h4, hN, hcc, hv, hR, hSP⟩ := hI
  have hC0 := hCl
  have hSP0 := hSP
  obtain ⟨fx, pK, pT, fU, frd, hS, h00, hC⟩ := hCl
  rcases hSP with ⟨rfl, a1, -⟩ | ⟨S, np, nb, pk, cd, fr, T, n0, dd, po, cp, pick, g0, ks0, ns0, cf, sta, aT, bT, row, told, rfl, hSt, hPu, hFd, hRn⟩
  · refine ⟨1, 6, _, by omega, by omega, m_La_stepS fx (t_CB_stepS fx fU), ?_⟩
    rintro v1 h1 ⟨rfl, rfl⟩
    refine ⟨1, rfl, ⟨fs, hMo.1⟩, 0, _, by omega, m_Mo_stepN hMo.1 hRf.1 a1, ?_⟩
    rintro v h2 ⟨rfl, fs', fm', mu, kp, b0⟩
    obtain ⟨i1, i2, i3⟩ := INV_m hA hC0 hMo hRf h7 h4 hN hcc hv hR hSP0 (fun _ _ z _ => z) fm' mu kp
    exact ⟨0, rfl, i1, ⟨_, fm', i2.1, b0⟩, fun z => absurd z (by decide)⟩
  · have hen : en = 0 ∨ en = 1 := by
      rcases hRn with ⟨-, -, -, z, -⟩ | ⟨-, -, ⟨-, -, z, -⟩ | ⟨-, -, z, -⟩ | ⟨-, -, z, -⟩⟩ | ⟨-, -, ⟨z, -⟩ | ⟨z, -⟩⟩
      · exact z
      · exact Or.inl z
      · exact Or.inl z
      · exact Or.inr z
      · exact Or.inr z
      · exact Or.inl z
    rcases hen with rfl | z
    · have H : iAll V A h ks ns f c s g c2 of f2 hk hn n N SS gv on 0 fp sp tt fs o S np nb pk cd fr T n0 dd po cp pick g0 ks0 ns0 cf sta aT bT row told := ⟨hA, hC0, hMo, hRf, h7, h4, hN, hcc, hv, hR, hSt, hPu, hFd, hRn⟩
      have hvb : dd.1.1 = 0 ∨ dd.1.1 = 1 ∨ dd.1.1 = 2 ∨ dd.1.1 = 3 := by
        rcases tp_shape hPu.1 with ⟨-, -, -, -, -, e⟩ | ⟨i, -, e3, -, -, -, -, e⟩ | ⟨k, -, -, -, -, -, -, e⟩ | ⟨r, Q, k, ls, -, -, -, -, -, -, -, -, e⟩
        · exact Or.inl (by rw [e])
        · exact Or.inr (Or.inl (by rw [e]))
        · exact Or.inr (Or.inr (Or.inl (by rw [e])))
        · exact Or.inr (Or.inr (Or.inr (by rw [e])))
      rcases hvb with z | z | z | z
      · exact step_C H z
      · exact step_I H z
      · exact step_D H z
      · by_cases hT : dd.1.2.1 = 5 ∨ dd.1.2.1 = 6
        · exact step_T H z hT
        · exact step_R H z hT
    · exact step_E ⟨hA, hC0, hMo, hRf, h7, h4, hN, hcc, hv, hR, hSt, hPu, hFd, hRn⟩ z
