/-! CALLS: step -/
section GO
variable {V : xV} {A : Nat → Nat} {h h1 h2 : xH} {ks ns f c s g c2 of f2 c3 of3 f3 hk hn : Nat → Int32} {n N : Nat} {SS : Nat → Nat} {S : Nat} {gv on en fp sp : Int32} {tt : Int64} {fs fs' : List Value} {o : Nat → Int64}
theorem step_go (hA : iAp A) (hCl : iCl V A h ks ns n f c s SS (.ref S) gv on en fp sp tt g) (hMo : iMo V A h fs c2 of f2 ks ns hk hn o) {Qp : Option Value → xH → Prop} (hM : xM V y_Ru_advance b_Ru_advance 3 (some .int) 6 [.ref (A 8), .ref (A 4)] h 0 0 Qp)
    (hend : ∀ v h9, Qp v h9 → ∃ (an : Int32) (f' c' s' : Nat → Int32) (SS' : Nat → Nat) (gv' on' en' fp' sp' : Int32) (tt' : Int64) (g' : Nat → Int32) (M : List Nat), v = some (.int an) ∧ iCl V A h9 ks ns n f' c' s' SS' (.ref S) gv' on' en' fp' sp' tt' g' ∧ xKeep M h h9 ∧ (∀ q ∈ M, q ∈ LC A) ∧ ∀ h1 o', iCl V A h1 ks ns n f' c' s' SS' (.ref S) gv' on' en' fp' sp' tt' g' → iMo V A h1 fs c2 of f2 ks ns hk hn o' → xFix2 h h1 → o' 0 = an.toInt64 → ∃ d' Q, d' ≤ 8 ∧ xM V y_Mo_step b_Mo_step 1 (some .int) d' [.ref (A 10)] h1 0 0 Q ∧ ∀ v h2, Q v h2 → EndI V A 0 v h2) :
    PairW V A h y_La_step b_La_step 3 hs_step [.ref (A 0), .ref (A 18)] y_Mo_step b_Mo_step 1 (some .int) [.ref (A 10)] (EndI V A) := by
  have hC0 := hCl
  obtain ⟨fx, pK, pT, fU, frd, hS, h00, hC⟩ := hCl
  have hi : ∀ v h', Qp v h' → ∃ an : Int32, v = some (.int an) := fun v h' q => by
    obtain ⟨an, f', c', s', SS', gv', on', en', fp', sp', tt', g', M, e, -⟩ := hend v h' q
    exact ⟨an, e⟩
  refine ⟨0, 0, _, by omega, by omega, m_La_step fx hMo.2.2.2.2.2.2.2.2 (m_CB_step (f := f) (c := c) (s := s) fx fU pT.1 hM hi) hi (fun v h' q => ?_), ?_⟩
  · obtain ⟨an, f', c', s', SS', gv', on', en', fp', sp', tt', g', M, e, iC, kp, hMM, -⟩ := hend v h' q
    exact (hMo.keep hA kp hMM).2.2.2.2.2.2.2.2
  · rintro v1 h1 ⟨rfl, an, h9, q, u⟩
    obtain ⟨an', f', c', s', SS', gv', on', en', fp', sp', tt', g', M, e, iC9, kp, hMM, go⟩ := hend _ _ q
    cases e
    have iM9 := hMo.keep hA kp hMM
    have x9 : xFix2 h h9 := fix_of kp (fun q hq => fix_cl hC0 q (hMM q hq))
    obtain ⟨iC1, iM1, x1⟩ := out_w hA iC9 iM9 u
    exact ⟨0, rfl, ⟨fs, iM1.1⟩, go h1 _ iC1 iM1 (x9.tr x1) o_of⟩
theorem step_fin {np nb pk cd fr T n0 : Nat} {dd : tD} {po cp : Nat → Option Nat} {pick g0 ks0 ns0 : Nat → Int32} {cf : Nat → tCd} {sta aT bT row : Int32} {told : Int64} {an : Int32} {M Ks : List Nat} (hA : iAp A) (iC1 : iCl V A h1 ks ns n f c s SS (.ref S) gv on en fp sp tt g) (iM1 : iMo V A h1 fs c3 of3 f3 ks ns hk hn o) (x : xFix2 h h1) (ho : o 0 = an.toInt64) (iM2 : iMo V A h2 fs' c2 of f2 ks ns hk hn o) (kp : xKeep M h1 h2) (hMM : ∀ q ∈ M, q ∈ LM A) (hRf : iRf A fs) (mu : mUp Ks fs fs') (hK : ∀ k ∈ [1, 2, 3, 5, 6, 7, 8, 9], k ∉ Ks) (h7 : fs[7]? = some (.int (nI n))) (h4 : fs'[4]? = some (.int (nI N))) (hN : N ≤ 400) (hcc : ∀ t, t < 10 → c2 t = c t) (hv : tokS ks ns n) (hR : tieR f c SS of f2 N) (b0 : fs'[0]? = some (.int 0)) (hSt : iSt V h S dd np po cp pick cf g0 nb pk cd) (hPu : iPu dd ks0 ns0 n0 hk hn c np pick cf g0 fr T) (hFd : iFd fs' dd fr T gv sta aT bT row told) (hRn : iRun dd f c SS of f2 N gv on en fp sp tt g sta aT bT row told) : EndI V A 0 (some (.int an)) h2 := by
  have x2 : xFix2 h1 h2 := fix_of kp (fun q hq => fix_mo iM1 q (hMM q hq))
  have hRf2 := hRf.up mu (fun k hk => hK k (by revert hk; simp only [List.mem_cons, List.not_mem_nil, or_false]; rintro (z | z | z | z | z | z | z) <;> simp [z]))
  exact ⟨an, rfl, ⟨ks, ns, f, c, s, g, c2, of, f2, hk, hn, n, N, SS, .ref S, gv, on, en, fp, sp, tt, fs', o, hA, iC1.keep hA kp hMM, iM2, hRf2, mu.get h7 (hK 7 (by decide)), h4, hN, hcc, hv, hR, Or.inr ⟨S, np, nb, pk, cd, fr, T, n0, dd, po, cp, pick, g0, ks0, ns0, cf, sta, aT, bT, row, told, rfl, hSt.keep (x.tr x2), hPu, hFd, hRn⟩⟩, ⟨fs', iM2.1, hRf2.1, b0⟩, fun _ => ⟨o, iM2.2.2.2.2.2.2.2.2, ho⟩⟩
end GO
/-- a statement is at hand -/
def iAll (V : xV) (A : Nat → Nat) (h : xH) (ks ns f c s g c2 of f2 hk hn : Nat → Int32) (n N : Nat) (SS : Nat → Nat) (gv on en fp sp : Int32) (tt : Int64) (fs : List Value) (o : Nat → Int64) (S np nb pk cd fr T n0 : Nat) (dd : tD) (po cp : Nat → Option Nat) (pick g0 ks0 ns0 : Nat → Int32) (cf : Nat → tCd) (sta aT bT row : Int32) (told : Int64) : Prop :=
  iAp A ∧ iCl V A h ks ns n f c s SS (.ref S) gv on en fp sp tt g ∧ iMo V A h fs c2 of f2 ks ns hk hn o ∧ iRf A fs ∧ fs[7]? = some (.int (nI n)) ∧ fs[4]? = some (.int (nI N)) ∧ N ≤ 400 ∧ (∀ t, t < 10 → c2 t = c t) ∧ tokS ks ns n ∧ tieR f c SS of f2 N ∧ iSt V h S dd np po cp pick cf g0 nb pk cd ∧ iPu dd ks0 ns0 n0 hk hn c np pick cf g0 fr T ∧ iFd fs dd fr T gv sta aT bT row told ∧ iRun dd f c SS of f2 N gv on en fp sp tt g sta aT bT row told
section STEP
variable {V : xV} {A : Nat → Nat} {h : xH} {ks ns f c s g c2 of f2 hk hn : Nat → Int32} {n N : Nat} {SS : Nat → Nat} {gv on en fp sp : Int32} {tt : Int64} {fs : List Value} {o : Nat → Int64} {S np nb pk cd fr T n0 : Nat} {dd : tD} {po cp : Nat → Option Nat} {pick g0 ks0 ns0 : Nat → Int32} {cf : Nat → tCd} {sta aT bT row : Int32} {told : Int64}
/-- the reference's object alone changed -/
theorem iMo.obj {h2 : xH} {fs' : List Value} (i : iMo V A h fs c2 of f2 ks ns hk hn o) (fm' : h2 (A 10) = some (.inr (8, fs'))) (kp : xKeep [A 10] h h2) : iMo V A h2 fs' c2 of f2 ks ns hk hn o := by
  obtain ⟨m1, m2, m3, m4, m5, m6, m7, m8, m9⟩ := i
  exact ⟨fm', kp.get m2 (nm_c (x_ne m2 m1 (by simp)) nm_n), kp.get m3 (nm_c (x_ne m3 m1 (by simp)) nm_n), kp.get m4 (nm_c (x_ne m4 m1 (by simp)) nm_n), kp.get m5 (nm_c (x_ne m5 m1 (by simp)) nm_n), kp.get m6 (nm_c (x_ne m6 m1 (by simp)) nm_n), kp.get m7 (nm_c (x_ne m7 m1 (by simp)) nm_n), kp.get m8 (nm_c (x_ne m8 m1 (by simp)) nm_n), kp.get m9 (nm_c (x_ne m9 m1 (by simp)) nm_n)⟩
theorem iMo.obj2 {h2 : xH} {fs' : List Value} {of' f2' : Nat → Int32} (i : iMo V A h fs c2 of f2 ks ns hk hn o) (fm' : h2 (A 10) = some (.inr (8, fs'))) (fof' : h2 (A 12) = some (xI V 400 of')) (fce' : h2 (A 13) = some (xI V 2400 f2')) (kp : xKeep [A 10, A 12, A 13] h h2) : iMo V A h2 fs' c2 of' f2' ks ns hk hn o := by
  obtain ⟨m1, m2, m3, m4, m5, m6, m7, m8, m9⟩ := i
  have no : ∀ {q e}, h q = some e → (∀ z, e ≠ .inr z) → (∀ z, e ≠ xI V 400 z) → (∀ z, e ≠ xI V 2400 z) → h2 q = some e := fun {q e} f9 n1 n2 n3 => kp.get f9 (nm_c (x_ne f9 m1 (fun z => n1 _ z.symm)) (nm_c (x_ne f9 m3 (fun z => n2 _ z.symm)) (nm_c (x_ne f9 m4 (fun z => n3 _ z.symm)) nm_n)))
  exact ⟨fm', no m2 (by simp) (by simp) (by simp), fof', fce', no m5 (by simp) (by simp) (by simp), no m6 (by simp) (by simp) (by simp), no m7 (by simp) (by simp) (by simp), no m8 (by simp) (by simp) (by simp), no m9 (by simp) (by simp) (by simp)⟩
theorem iMo.obj1 {h2 : xH} {fs' : List Value} {c' : Nat → Int32} (i : iMo V A h fs c2 of f2 ks ns hk hn o) (fm' : h2 (A 10) = some (.inr (8, fs'))) (fco' : h2 (A 11) = some (xI V 10 c')) (kp : xKeep [A 10, A 11] h h2) : iMo V A h2 fs' c' of f2 ks ns hk hn o := by
  obtain ⟨m1, m2, m3, m4, m5, m6, m7, m8, m9⟩ := i
  have no : ∀ {q e}, h q = some e → (∀ z, e ≠ .inr z) → (∀ z, e ≠ xI V 10 z) → h2 q = some e := fun {q e} f9 n1 n2 => kp.get f9 (nm_c (x_ne f9 m1 (fun z => n1 _ z.symm)) (nm_c (x_ne f9 m2 (fun z => n2 _ z.symm)) nm_n))
  exact ⟨fm', fco', no m3 (by simp) (by simp), no m4 (by simp) (by simp), no m5 (by simp) (by simp), no m6 (by simp) (by simp), no m7 (by simp) (by simp), no m8 (by simp) (by simp), no m9 (by simp) (by simp)⟩
theorem mem1 : ∀ q ∈ [A 10], q ∈ LM A := by simp
theorem mem2 : ∀ q ∈ [A 10, A 11], q ∈ LM A := by simp
theorem mem3 : ∀ q ∈ [A 10, A 12, A 13], q ∈ LM A := by simp
/-- behind the end -/
theorem step_E (H : iAll V A h ks ns f c s g c2 of f2 hk hn n N SS gv on en fp sp tt fs o S np nb pk cd fr T n0 dd po cp pick g0 ks0 ns0 cf sta aT bT row told) (he : en = 1) : PairW V A h y_La_step b_La_step 3 hs_step [.ref (A 0), .ref (A 18)] y_Mo_step b_Mo_step 1 (some .int) [.ref (A 10)] (EndI V A) := by
  obtain ⟨hA, hCl, hMo, hRf, h7, h4, hN, hcc, hv, hR, hSt, hPu, hFd, hRn⟩ := H
  subst he
  have hsr : sta = 1 ∧ row = 0 := by
    rcases hRn with ⟨-, -, -, -, e1, e2⟩ | ⟨-, -, ⟨-, -, z, -⟩ | ⟨-, -, z, -⟩ | ⟨-, -, -, e1, e2⟩⟩ | ⟨-, -, ⟨-, -, e1, e2⟩ | ⟨z, -⟩⟩
    · exact ⟨e1, e2⟩
    · exact absurd z (by decide)
    · exact absurd z (by decide)
    · exact ⟨e1, e2⟩
    · exact ⟨e1, e2⟩
    · exact absurd z (by decide)
  obtain ⟨rfl, rfl⟩ := hsr
  refine step_go hA hCl hMo (m_Ru_advanceE hCl.2.2.2.1) ?_
  rintro v h9 ⟨rfl, rfl⟩
  refine ⟨0, f, c, s, SS, gv, on, 1, fp, sp, tt, g, [], rfl, hCl, xKeep.rf, by simp, fun h1 o' iC1 iM1 x1 ho => ?_⟩
  obtain ⟨d1, d2, d3, d4, d5, d6, d7, d8, d9, d10, d11, d12⟩ := hFd
  refine ⟨0, _, by omega, m_Mo_stepE iM1.1 hRf.1 d1 d7, ?_⟩
  rintro v h2 ⟨rfl, fs', fm', mu, kp, b0, b1⟩
  exact step_fin hA iC1 iM1 x1 ho (iM1.obj fm' kp) kp mem1 hRf mu (by decide) h7 (mu.get h4 (by decide)) hN hcc hv hR b0 hSt hPu ⟨mu.get d1 (by decide), mu.get d2 (by decide), mu.get d3 (by decide), mu.get d4 (by decide), mu.get d5 (by decide), mu.get d6 (by decide), mu.get d7 (by decide), mu.get d8 (by decide), mu.get d9 (by decide), mu.get d10 (by decide), b1, mu.get d12 (by decide)⟩ hRn
/-- CREATE -/
theorem step_C (H : iAll V A h ks ns f c s g c2 of f2 hk hn n N SS gv on 0 fp sp tt fs o S np nb pk cd fr T n0 dd po cp pick g0 ks0 ns0 cf sta aT bT row told) (h0 : dd.1.1 = 0) : PairW V A h y_La_step b_La_step 3 hs_step [.ref (A 0), .ref (A 18)] y_Mo_step b_Mo_step 1 (some .int) [.ref (A 10)] (EndI V A) := by
  obtain ⟨hA, hCl, hMo, hRf, h7, h4, hN, hcc, hv, hR, hSt, hPu, hFd, hRn⟩ := H
  have hC0 := hCl
  obtain ⟨fx, pK, pT, fU, frd, hS, h00, hC⟩ := hCl
  obtain ⟨hv0, hh⟩ := hPu.had
  obtain ⟨⟨t1, ht1, e1⟩, -, e0⟩ := tp_tabs hv0 hPu.1
  have hsh : 2 < n0 ∧ dd.2.1 = 1 := by
    rcases tp_shape hPu.1 with ⟨-, e3, -, -, -, e⟩ | ⟨i, -, -, -, -, -, -, e⟩ | ⟨k, -, -, -, -, -, -, e⟩ | ⟨r, Q, k, ls, -, -, -, -, -, -, -, -, e⟩
    · exact ⟨by omega, by rw [e]⟩
    · rw [e] at h0; exact absurd (show (1 : Int32) = 0 from h0) (by decide)
    · rw [e] at h0; exact absurd (show (2 : Int32) = 0 from h0) (by decide)
    · rw [e] at h0; exact absurd (show (3 : Int32) = 0 from h0) (by decide)
  have h3 : ¬ dd.1.1 = 3 := by rw [h0]; decide
  have hg0 : hn 2 = g0 0 := by rw [(hh 2 hsh.1).2, hPu.2.2.1 0 (by omega) (by omega)]
  have hv9 : hn 0 = 0 := by rw [(hh 0 (by omega)).2, ← e0, h0]
  have hst : sta = 0 ∧ row = 0 ∧ gv = 0 ∧ on = 0 := by
    rcases hRn with ⟨-, a1, a2, -, a3, a4⟩ | ⟨z, -⟩ | ⟨z, -⟩
    · exact ⟨a3, a4, a2, a1⟩
    · exact absurd z h3
    · exact absurd z h3
  obtain ⟨rfl, rfl, rfl, rfl⟩ := hst
  have fS := hSt.1
  rw [h0, e1] at fS
  refine step_go hA hC0 hMo (m_Ru_advanceC fS hSt.2.1 pT ht1 fU) ?_
  rintro v h9 ⟨c', an, rfl, pT', fU', kp9, hD⟩
  have no : ∀ {q e}, h q = some e → (∀ z, e ≠ xI V 10 z) → (∀ a b d e5 e6 e7 e8 e9, e ≠ oRu a b d e5 e6 e7 e8 e9) → h9 q = some e := fun {q e} f9 n1 n2 => kp9.get f9 (nm_c (x_ne f9 fU (fun z => n2 _ _ _ _ _ _ _ _ z.symm)) (nm_c (x_ne f9 pT.2.2.1 (fun z => n1 _ z.symm)) nm_n))
  have hc9 : colOf c (nI t1) ≤ 0 → c t1 = 0 := fun z => by
    rw [colOf_nI ht1] at z
    obtain ⟨k, hk6, ek⟩ := hC t1 ht1
    rw [ek] at z ⊢
    rcases Nat.eq_zero_or_pos k with y | y
    · rw [y]; rfl
    · exact absurd z (nI_nle y (by omega))
  obtain ⟨u1, u2, u3, u4, u5, u6, u7, u8⟩ := hPu
  obtain ⟨-, -, g1, g6⟩ := u7 h0
  have hcn : colsN c' := by
    rcases hD with ⟨-, -, rfl⟩ | ⟨-, -, rfl⟩
    · exact hC
    · intro t ht
      by_cases htt : t = t1
      · subst htt
        rw [pk_us]
        obtain ⟨j, hj, ej⟩ := nI_of (x := g0 0) (fun z => g1 (Int32.lt_trans z (by decide)))
        refine ⟨j, ?_, ej⟩
        rcases Nat.lt_or_ge 6 j with y | y
        · exact absurd (show (6 : Int32) < g0 0 by rw [ej]; exact nI_lt (a := 6) y hj) g6
        · exact y
      · rw [pk_un htt]; exact hC t ht
  have iC9 : iCl V A h9 ks ns n f c' s SS (.ref S) 0 0 1 fp sp tt g := by
    obtain ⟨k1, k2, k3, k4, k5⟩ := pK
    exact ⟨no fx (by simp) (by simp), ⟨no k1 (by simp) (by simp), no k2 (by simp) (by simp), no k3 (by simp) (by simp), k4, k5⟩, pT', fU', no frd (by simp) (by simp), hS, h00, hcn⟩
  refine ⟨an, f, c', s, SS, 0, 0, 1, fp, sp, tt, g, _, rfl, iC9, kp9, by simp, fun h1 o' iC1 iM1 x1 ho => ?_⟩
  obtain ⟨d1, d2, d3, d4, d5, d6, d7, d8, d9, d10, d11, d12⟩ := hFd
  rw [e1] at d2
  refine ⟨2, _, by omega, m_Mo_stepC iM1.1 hRf.1 d1 d7 hRf.2.1 hRf.2.2.2.2.2.2.2 d2 iM1.2.1 iM1.2.2.2.2.2.2.2.1 ht1 hv9, ?_⟩
  rintro v h2 ⟨fs', c4, an2, rfl, fm', mu, fco', kp, b0, b1, b2, hD2⟩
  have hres : an2 = an ∧ (∀ t, t < 10 → c4 t = c' t) ∧ tieR f c' SS of f2 N := by
    rw [colOf_nI ht1] at hD hc9
    rw [hcc t1 ht1] at hD2
    rcases hD with ⟨z1, rfl, rfl⟩ | ⟨z1, rfl, rfl⟩
    · rcases hD2 with ⟨-, rfl, rfl⟩ | ⟨z2, -⟩
      · exact ⟨rfl, hcc, hR⟩
      · exact absurd z2 z1
    · rcases hD2 with ⟨z2, -⟩ | ⟨-, rfl, rfl⟩
      · exact absurd z1 z2
      · refine ⟨rfl, fun t ht => ?_, tie_cre hR ht1 (hc9 z1) (fun z => g1 (by rw [z]; decide))⟩
        by_cases htt : t = t1
        · subst htt; rw [pk_us, pk_us, hg0]
        · rw [pk_un htt, pk_un htt]; exact hcc t ht
  obtain ⟨rfl, hcc', hR'⟩ := hres
  exact step_fin hA iC1 iM1 x1 ho (iM1.obj1 fm' fco' kp) kp mem2 hRf mu (by decide) h7 (mu.get h4 (by decide)) hN hcc' hv hR' b0 hSt ⟨u1, u2, u3, u4, u5, u6, u7, fun z => absurd h0 z⟩ ⟨mu.get d1 (by decide), by rw [e1]; exact mu.get d2 (by decide), mu.get d3 (by decide), mu.get d4 (by decide), mu.get d5 (by decide), mu.get d6 (by decide), b2, mu.get d8 (by decide), mu.get d9 (by decide), mu.get d10 (by decide), b1, mu.get d12 (by decide)⟩ (Or.inl ⟨h3, rfl, rfl, Or.inr rfl, rfl, rfl⟩)
end STEP
