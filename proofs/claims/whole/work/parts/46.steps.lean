/-! CALLS: feed, rows, nearest, all -/
theorem o_of {an : Int32} {o : Nat → Int64} : vp_updL o 0 an.toInt64 0 = an.toInt64 := pk_uLs
theorem step_feed {V : xV} {A : Nat → Nat} {h : xH} (hI : INV V A h) (a k : Int32) : PairW V A h y_La_feed b_La_feed 5 hs_feed [.ref (A 0), .int a, .int k, .ref (A 18)] y_Mo_feed b_Mo_feed 4 (some .int) [.ref (A 10), .int a, .int k] (EndI V A) := by
  obtain ⟨ks, ns, f, c, s, g, c2, of, f2, hk, hn, n, N, SS, st, gv, on, en, fp, sp, tt, fs, o, hA, hCl, hMo, hRf, h7, h4, hN, hcc, hv, hR, hSP⟩ := hI
  have hC0 := hCl
  have hM0 := hMo
  obtain ⟨fx, pK, pT, fU, frd, hS, h00, hC⟩ := hCl
  have hw := hA.2.1
  -- the reference, where nothing of its changed
  have mod : ∀ (h1 : xH) (kk : Int32) (ks' ns' : Nat → Int32) (n' : Nat) (o' : Nat → Int64), iCl V A h1 ks' ns' n' f c s SS st gv on en fp sp tt g → iMo V A h1 fs c2 of f2 ks ns hk hn o' → xFix2 h h1 →
      ((tokOK a k = false ∧ kk = 1 ∧ n' = n ∧ ks' = ks ∧ ns' = ns) ∨ (tokOK a k = true ∧ n = 60 ∧ kk = 2 ∧ n' = n ∧ ks' = ks ∧ ns' = ns) ∨ (tokOK a k = true ∧ n < 60 ∧ kk = 0 ∧ n' = n + 1 ∧ ks' = upd ks n a ∧ ns' = upd ns n k ∧ o' 0 = (nI (n + 1)).toInt64)) →
      ∃ d' Q, d' ≤ 8 ∧ xM V y_Mo_feed b_Mo_feed 4 (some .int) d' [.ref (A 10), .int a, .int k] h1 0 0 Q ∧ ∀ v h2, Q v h2 → EndI V A kk v h2 := by
    intro h1 kk ks' ns' n' o' iC iM fx1 hcase
    refine ⟨1, _, by omega, m_Mo_feed iM.1 hRf.1 hRf.2.2.2.2.1 hRf.2.2.2.2.2.1 h7 iM.2.2.2.2.1 iM.2.2.2.2.2.1 hw pK.2.2.2.2 a k, ?_⟩
    rintro v h2 ⟨fs', ks2, ns2, fm', mu, fki', fnu', kp, hD⟩
    have iC2 := iC.keep hA kp (by simp)
    have x2 : xFix2 h1 h2 := fix_of kp (fun q hq => fix_mo iM q (by revert hq; simp only [List.mem_cons, List.not_mem_nil, or_false]; rintro (z | z | z) <;> simp [z]))
    have hM2 : iMo V A h2 fs' c2 of f2 ks2 ns2 hk hn o' := by
      obtain ⟨m1, m2, m3, m4, m5, m6, m7, m8, m9⟩ := iM
      obtain ⟨w0, w1, w2, w3, w4, w5⟩ := hA.2
      exact ⟨fm', kp.get m2 (nm_c (x_ne m2 m1 (by simp)) (nm_c (x_ne m2 m5 (by simp)) (nm_c (x_ne m2 m6 (by simp)) nm_n))), kp.get m3 (nm_c (x_ne m3 m1 (by simp)) (nm_c (x_ne m3 m5 (by simp)) (nm_c (x_ne m3 m6 (by simp)) nm_n))), kp.get m4 (nm_c (x_ne m4 m1 (by simp)) (nm_c (x_ne m4 m5 (by simp)) (nm_c (x_ne m4 m6 (by simp)) nm_n))), fki', fnu', kp.get m7 (nm_c (x_ne m7 m1 (by simp)) (nm_c w1 (nm_c w2 nm_n))), kp.get m8 (nm_c (x_ne m8 m1 (by simp)) (nm_c w3 (nm_c w4 nm_n))), kp.get m9 (nm_c (x_ne m9 m1 (by simp)) (nm_c (x_ne m9 m5 (by simp)) (nm_c (x_ne m9 m6 (by simp)) nm_n)))⟩
    have hRf2 := hRf.up mu (by decide)
    have hSP2 := hSP.keep (fx1.tr x2) mu (by decide)
    have h4' := mu.get h4 (by decide)
    rcases hD with ⟨d1, rfl, d3, d4, rfl, rfl⟩ | ⟨d1, d2, rfl, d3, d4, rfl, rfl⟩ | ⟨d1, d2, rfl, d3, d4, rfl, rfl⟩
    · rcases hcase with ⟨-, rfl, rfl, rfl, rfl⟩ | ⟨e, -⟩ | ⟨e, -⟩
      · exact ⟨0, rfl, ⟨_, _, f, c, s, g, c2, of, f2, hk, hn, _, N, SS, st, gv, on, en, fp, sp, tt, fs', o', hA, iC2, hM2, hRf2, d4, h4', hN, hcc, hv, hR, hSP2⟩, ⟨fs', fm', hRf2.1, d3⟩, fun z => absurd z (by decide)⟩
      · rw [d1] at e; cases e
      · rw [d1] at e; cases e
    · rcases hcase with ⟨e, -⟩ | ⟨-, -, rfl, rfl, rfl, rfl⟩ | ⟨-, e, -⟩
      · rw [d1] at e; cases e
      · exact ⟨0, rfl, ⟨_, _, f, c, s, g, c2, of, f2, hk, hn, _, N, SS, st, gv, on, en, fp, sp, tt, fs', o', hA, iC2, hM2, hRf2, d4, h4', hN, hcc, hv, hR, hSP2⟩, ⟨fs', fm', hRf2.1, d3⟩, fun z => absurd z (by decide)⟩
      · omega
    · rcases hcase with ⟨e, -⟩ | ⟨-, e, -⟩ | ⟨-, -, rfl, rfl, rfl, rfl, ho⟩
      · rw [d1] at e; cases e
      · omega
      · refine ⟨nI (n + 1), rfl, ⟨_, _, f, c, s, g, c2, of, f2, hk, hn, _, N, SS, st, gv, on, en, fp, sp, tt, fs', o', hA, iC2, hM2, hRf2, d4, h4', hN, hcc, fun i hi => ?_, hR, hSP2⟩, ⟨fs', fm', hRf2.1, d3⟩, fun _ => ⟨o', hM2.2.2.2.2.2.2.2.2, ho⟩⟩
        by_cases hin : i = n
        · subst hin; rw [pk_us, pk_us]; exact d1
        · rw [pk_un hin, pk_un hin]; exact hv i (by omega)
  by_cases ht : tokOK a k = true
  · rcases Nat.lt_or_ge n 60 with hn6 | hn6
    · -- it is put in
      have hkp : ∀ (v : Option Value) (h' : xH), (v = some (Value.int (nI (n + 1))) ∧ pTo V h' (A 1) (A 2) (A 3) (upd ks n a) (upd ns n k) (n + 1) ∧ xKeep [A 1, A 2, A 3] h h') → h' (A 18) = some (xJ V 1 o) := fun v h' q => (hM0.keep hA q.2.2 (by simp)).2.2.2.2.2.2.2.2
      refine ⟨0, 0, _, by omega, by omega, m_La_feed fx hM0.2.2.2.2.2.2.2.2 (m_CB_feed fx pK a k ht hn6) (fun v h' q => ⟨_, q.1⟩) hkp, ?_⟩
      rintro v1 h1 ⟨rfl, an, h9, ⟨q1, q2, q3⟩, u⟩
      cases q1
      have iM9 := hM0.keep hA q3 (by simp)
      have iC9 : iCl V A h9 (upd ks n a) (upd ns n k) (n + 1) f c s SS st gv on en fp sp tt g := by
        obtain ⟨t1, t2, t3, t4⟩ := pT
        have no : ∀ {q e}, h q = some e → (∀ z, e ≠ xI V 60 z) → (∀ x y z, e ≠ oTo x y z) → h9 q = some e := fun {q e} f9 n1 n2 => q3.get f9 (nm_c (x_ne f9 pK.1 (fun z => n2 _ _ _ z.symm)) (nm_c (x_ne f9 pK.2.1 (fun z => n1 _ z.symm)) (nm_c (x_ne f9 pK.2.2.1 (fun z => n1 _ z.symm)) nm_n)))
        exact ⟨no fx (by simp) (by simp), q2, ⟨no t1 (by simp) (by simp), no t2 (by simp) (by simp), no t3 (by simp) (by simp), no t4 (by simp) (by simp)⟩, no fU (by simp) (by simp), no frd (by simp) (by simp), hS, h00, hC⟩
      have x9 : xFix2 h h9 := fix_of q3 (fun q hq => fix_cl hC0 q (by revert hq; simp only [List.mem_cons, List.not_mem_nil, or_false]; rintro (z | z | z) <;> simp [z]))
      have kO : xKeep [A 18] h9 h1 := xKeep.rf.up u (by simp)
      have x1 : xFix2 h9 h1 := fix_of kO (fun q hq => fix_mo iM9 q (by revert hq; simp only [List.mem_cons, List.not_mem_nil, or_false]; rintro z; simp [z]))
      have iM1 := iM9.out u
      exact ⟨0, rfl, ⟨fs, iM1.1⟩, mod h1 0 _ _ _ _ (iC9.keep hA kO (by simp)) iM1 (x9.tr x1) (Or.inr (Or.inr ⟨ht, hn6, rfl, rfl, rfl, rfl, o_of⟩))⟩
    · have hn60 : n = 60 := by have := pK.2.2.2.2; omega
      refine ⟨1, 6, _, by omega, by omega, m_La_feedS fx (t_CB_feedS fx pK a k ht hn60), ?_⟩
      rintro v1 h1 ⟨rfl, rfl⟩
      exact ⟨2, rfl, ⟨fs, hM0.1⟩, mod h1 2 _ _ _ _ hC0 hM0 (fun _ _ z _ => z) (Or.inr (Or.inl ⟨ht, hn60, rfl, rfl, rfl, rfl⟩))⟩
  · have hf := Bool.eq_false_iff.mpr ht
    refine ⟨1, 6, _, by omega, by omega, m_La_feedA fx (t_CB_feedA fx pK a k hf), ?_⟩
    rintro v1 h1 ⟨rfl, rfl⟩
    exact ⟨1, rfl, ⟨fs, hM0.1⟩, mod h1 1 _ _ _ _ hC0 hM0 (fun _ _ z _ => z) (Or.inl ⟨hf, rfl, rfl, rfl, rfl⟩)⟩
