/-! CALLS: rows, nearest, all, clear -/
theorem INV_m {V : xV} {A : Nat → Nat} {h h1 h2 : xH} {ks ns f c s g c2 of f2 hk hn : Nat → Int32} {n N : Nat} {SS : Nat → Nat} {st : Value} {gv on en fp sp : Int32} {tt : Int64} {fs fs' : List Value} {o : Nat → Int64} (hA : iAp A) (hCl : iCl V A h1 ks ns n f c s SS st gv on en fp sp tt g) (hMo : iMo V A h1 fs c2 of f2 ks ns hk hn o) (hRf : iRf A fs) (h7 : fs[7]? = some (.int (nI n))) (h4 : fs[4]? = some (.int (nI N))) (hN : N ≤ 400) (hcc : ∀ t, t < 10 → c2 t = c t) (hv : tokS ks ns n) (hR : tieR f c SS of f2 N) (hSP : iSP V h fs hk hn f c SS of f2 N st gv on en fp sp tt g) (x : xFix2 h h1)
    (fm' : h2 (A 10) = some (.inr (8, fs'))) (mu : mUp [0] fs fs') (kp : xKeep [A 10] h1 h2) : INV V A h2 ∧ iRf A fs' ∧ h2 (A 18) = some (xJ V 1 o) := by
  have iC2 := hCl.keep hA kp (by simp)
  have x2 : xFix2 h1 h2 := fix_of kp (fun q hq => fix_mo hMo q (by revert hq; simp only [List.mem_cons, List.not_mem_nil, or_false]; rintro z; simp [z]))
  have hM2 : iMo V A h2 fs' c2 of f2 ks ns hk hn o := by
    obtain ⟨m1, m2, m3, m4, m5, m6, m7, m8, m9⟩ := hMo
    exact ⟨fm', kp.get m2 (nm_c (x_ne m2 m1 (by simp)) nm_n), kp.get m3 (nm_c (x_ne m3 m1 (by simp)) nm_n), kp.get m4 (nm_c (x_ne m4 m1 (by simp)) nm_n), kp.get m5 (nm_c (x_ne m5 m1 (by simp)) nm_n), kp.get m6 (nm_c (x_ne m6 m1 (by simp)) nm_n), kp.get m7 (nm_c (x_ne m7 m1 (by simp)) nm_n), kp.get m8 (nm_c (x_ne m8 m1 (by simp)) nm_n), kp.get m9 (nm_c (x_ne m9 m1 (by simp)) nm_n)⟩
  have hRf2 := hRf.up mu (by decide)
  exact ⟨⟨ks, ns, f, c, s, g, c2, of, f2, hk, hn, n, N, SS, st, gv, on, en, fp, sp, tt, fs', o, hA, iC2, hM2, hRf2, mu.get h7 (by decide), mu.get h4 (by decide), hN, hcc, hv, hR, hSP.keep (x.tr x2) mu (by decide)⟩, hRf2, hM2.2.2.2.2.2.2.2.2⟩
/-- only out was written -/
theorem out_w {V : xV} {A : Nat → Nat} {h h1 : xH} {ks ns f c s g c2 of f2 hk hn : Nat → Int32} {n : Nat} {SS : Nat → Nat} {st : Value} {gv on en fp sp : Int32} {tt : Int64} {fs : List Value} {o o' : Nat → Int64} (hA : iAp A) (hCl : iCl V A h ks ns n f c s SS st gv on en fp sp tt g) (hMo : iMo V A h fs c2 of f2 ks ns hk hn o) (u : h1 = va_up h (A 18) (some (xJ V 1 o'))) : iCl V A h1 ks ns n f c s SS st gv on en fp sp tt g ∧ iMo V A h1 fs c2 of f2 ks ns hk hn o' ∧ xFix2 h h1 := by
  have kO : xKeep [A 18] h h1 := xKeep.rf.up u (by simp)
  exact ⟨hCl.keep hA kO (by simp), hMo.out u, fix_of kO (fun q hq => fix_mo hMo q (by revert hq; simp only [List.mem_cons, List.not_mem_nil, or_false]; rintro z; simp [z]))⟩
theorem step_rows {V : xV} {A : Nat → Nat} {h : xH} (hI : INV V A h) (t : Int32) : PairW V A h y_La_rows b_La_rows 4 hs_rows [.ref (A 0), .int t, .ref (A 18)] y_Mo_rows b_Mo_rows 4 (some .int) [.ref (A 10), .int t] (EndI V A) := by
  obtain ⟨ks, ns, f, c, s, g, c2, of, f2, hk, hn, n, N, SS, st, gv, on, en, fp, sp, tt, fs, o, hA, hCl, hMo, hRf, h7, h4, hN, hcc, hv, hR, hSP⟩ := hI
  have hC0 := hCl
  obtain ⟨fx, pK, pT, fU, frd, hS, h00, hC⟩ := hCl
  rcases pk_ix t (n := 10) (by decide) with z | z | ⟨j, hj, rfl⟩
  · refine ⟨1, 6, _, by omega, by omega, m_La_rowsA fx (t_CB_rowsA fx pT t (Or.inl z)), ?_⟩
    rintro v1 h1 ⟨rfl, rfl⟩
    refine ⟨1, rfl, ⟨fs, hMo.1⟩, 1, _, by omega, m_Mo_rowsN hMo.1 hRf.1 t (Or.inl z), ?_⟩
    rintro v h2 ⟨rfl, fs', fm', mu, kp, g0⟩
    obtain ⟨i1, i2, i3⟩ := INV_m hA hC0 hMo hRf h7 h4 hN hcc hv hR hSP (fun _ _ z _ => z) fm' mu kp
    exact ⟨0, rfl, i1, ⟨fs', fm', i2.1, g0⟩, fun z => absurd z (by decide)⟩
  · refine ⟨1, 6, _, by omega, by omega, m_La_rowsA fx (t_CB_rowsA fx pT t (Or.inr z)), ?_⟩
    rintro v1 h1 ⟨rfl, rfl⟩
    refine ⟨1, rfl, ⟨fs, hMo.1⟩, 1, _, by omega, m_Mo_rowsN hMo.1 hRf.1 t (Or.inr (nine.mpr z)), ?_⟩
    rintro v h2 ⟨rfl, fs', fm', mu, kp, g0⟩
    obtain ⟨i1, i2, i3⟩ := INV_m hA hC0 hMo hRf h7 h4 hN hcc hv hR hSP (fun _ _ z _ => z) fm' mu kp
    exact ⟨0, rfl, i1, ⟨fs', fm', i2.1, g0⟩, fun z => absurd z (by decide)⟩
  · refine ⟨0, 0, _, by omega, by omega, m_La_rows fx hMo.2.2.2.2.2.2.2.2 (m_CB_rows fx pT (nI j) (nI_pos (by omega)) (nI_lt (b := 10) hj (by decide))) (fun v h' q => ⟨_, q.2⟩) (fun v h' q => by rw [q.1]; exact hMo.2.2.2.2.2.2.2.2), ?_⟩
    rintro v1 h1 ⟨rfl, an, h9, ⟨q1, q2⟩, u⟩
    subst q1
    cases q2
    obtain ⟨iC1, iM1, x1⟩ := out_w hA hC0 hMo u
    refine ⟨0, rfl, ⟨fs, iM1.1⟩, 1, _, by omega, m_Mo_rows iM1.1 hRf.1 hRf.2.2.1 hRf.2.1 h4 iM1.2.2.1 iM1.2.1 hN hj, ?_⟩
    rintro v h2 ⟨fs', fm', mu, kp, g0, rfl⟩
    obtain ⟨i1, i2, i3⟩ := INV_m hA iC1 iM1 hRf h7 h4 hN hcc hv hR hSP x1 fm' mu kp
    refine ⟨_, rfl, i1, ⟨fs', fm', i2.1, g0⟩, fun _ => ⟨_, i3, ?_⟩⟩
    rw [o_of, colOf_nI hj, hcc j hj, hS.row hj]
    have e : ((List.range N).filter (fun k => decide (of k = nI j))).length = SS (j + 1) - SS j := tie_len (hR.2 j hj)
    rw [e]
theorem pNB_ex (key : Nat → Int32) (k : Int32) : ∀ n, ∃ p, pNB key n k p := by
  intro n
  induction n with
  | zero => exact ⟨0, by omega, lt_0, fun z => absurd z (by omega)⟩
  | succ n ih =>
    obtain ⟨p, h1, h2, h3⟩ := ih
    by_cases hp : p < n
    · exact ⟨p, by omega, h2, fun _ => h3 hp⟩
    · have e : p = n := by omega
      subst e
      by_cases hk : key p < k
      · exact ⟨p + 1, by omega, lt_s h2 hk, fun z => absurd z (by omega)⟩
      · exact ⟨p, by omega, h2, fun _ => hk⟩
theorem pNB_un {key : Nat → Int32} {k : Int32} {n p q : Nat} (h : pNB key n k p) (h2 : pNB key n k q) : p = q := by
  rcases Nat.lt_trichotomy p q with z | z | z
  · exact absurd (h2.2.1 p z) (h.2.2 (by have := h2.1; omega))
  · exact z
  · exact absurd (h.2.1 q z) (h2.2.2 (by have := h.1; omega))
theorem nearP_or {key : Nat → Int32} {n p : Nat} {k u : Int32} (hp : p ≤ n) : nearP key n k u p = -1 ∨ ∃ pl, pl < n ∧ nearP key n k u p = nI pl := by
  unfold nearP
  by_cases hu : u = 0
  · rw [if_pos hu]
    by_cases h1 : p < n ∧ key p = k
    · rw [if_pos h1]; exact Or.inr ⟨p, h1.1, rfl⟩
    · rw [if_neg h1]
      by_cases h2 : 0 < p
      · rw [if_pos h2]; exact Or.inr ⟨p - 1, by omega, rfl⟩
      · rw [if_neg h2]; exact Or.inl rfl
  · rw [if_neg hu]
    by_cases h1 : p < n
    · rw [if_pos h1]; exact Or.inr ⟨p, h1, rfl⟩
    · rw [if_neg h1]; exact Or.inl rfl
theorem step_nearest {V : xV} {A : Nat → Nat} {h : xH} (hI : INV V A h) (t k u : Int32) : PairW V A h y_La_nearest b_La_nearest 6 hs_nearest [.ref (A 0), .int t, .int k, .int u, .ref (A 18)] y_Mo_nearest b_Mo_nearest 8 (some .int) [.ref (A 10), .int t, .int k, .int u] (EndI V A) := by
  obtain ⟨ks, ns, f, c, s, g, c2, of, f2, hk, hn, n, N, SS, st, gv, on, en, fp, sp, tt, fs, o, hA, hCl, hMo, hRf, h7, h4, hN, hcc, hv, hR, hSP⟩ := hI
  have hC0 := hCl
  obtain ⟨fx, pK, pT, fU, frd, hS, h00, hC⟩ := hCl
  by_cases hno : colOf c t ≤ 0
  · refine ⟨1, 6, _, by omega, by omega, m_La_nearestA fx (t_CB_nearestA fx pT t k u hno), ?_⟩
    rintro v1 h1 ⟨rfl, rfl⟩
    have fin : ∀ v h2, (v = some (Value.int 0) ∧ ∃ fs', h2 (A 10) = some (.inr (8, fs')) ∧ mUp [0] fs fs' ∧ xKeep [A 10] h1 h2 ∧ fs'[0]? = some (.int 1)) → EndI V A 1 v h2 := by
      rintro v h2 ⟨rfl, fs', fm', mu, kp, g0⟩
      obtain ⟨i1, i2, i3⟩ := INV_m hA hC0 hMo hRf h7 h4 hN hcc hv hR hSP (fun _ _ z _ => z) fm' mu kp
      exact ⟨0, rfl, i1, ⟨fs', fm', i2.1, g0⟩, fun z => absurd z (by decide)⟩
    rcases pk_ix t (n := 10) (by decide) with z | z | ⟨j, hj, rfl⟩
    · exact ⟨1, rfl, ⟨fs, hMo.1⟩, 1, _, by omega, m_Mo_nearestO hMo.1 hRf.1 h4 t k u (Or.inl z), fin⟩
    · exact ⟨1, rfl, ⟨fs, hMo.1⟩, 1, _, by omega, m_Mo_nearestO hMo.1 hRf.1 h4 t k u (Or.inr (nine.mpr z)), fin⟩
    · rw [colOf_nI hj, ← hcc j hj] at hno
      exact ⟨1, rfl, ⟨fs, hMo.1⟩, 1, _, by omega, m_Mo_nearestN hMo.1 hRf.1 h4 hRf.2.1 hMo.2.1 hj hno k u, fin⟩
  · rcases pk_ix t (n := 10) (by decide) with z | z | ⟨j, hj, rfl⟩
    · exact absurd (by unfold colOf; rw [if_pos z]; decide) hno
    · exact absurd (by unfold colOf; rw [if_neg (fun y => absurd (Int32.lt_of_lt_of_le y (Int32.le_trans (by decide : (0 : Int32) ≤ 10) z)) Int32.lt_irrefl), if_pos (show (10 : Int32) ≤ t from z)]; decide) hno
    · have hcj : ¬ c j ≤ 0 := by rw [← colOf_nI (c := c) hj]; exact hno
      have hc2 : ¬ c2 j ≤ 0 := by rw [hcc j hj]; exact hcj
      obtain ⟨p, hp⟩ := pNB_ex (fun i => f ((SS j + i) * 6)) k (SS (j + 1) - SS j)
      have hTj := hR.2 j hj
      rcases nearP_or (key := fun i => f ((SS j + i) * 6)) (k := k) (u := u) hp.1 with e | ⟨pl, hpl, e⟩
      · refine ⟨1, 6, _, by omega, by omega, m_La_nearestS fx (t_CB_nearestS fx pT hS hj k u hno (fun q hq => by rw [pNB_un hq hp]; exact e)), ?_⟩
        rintro v1 h1 ⟨rfl, rfl⟩
        refine ⟨2, rfl, ⟨fs, hMo.1⟩, 1, _, by omega, m_Mo_nearest hMo.1 hRf.1 h4 hRf.2.1 hRf.2.2.1 hRf.2.2.2.1 hMo.2.1 hMo.2.2.1 hMo.2.2.2.1 hN hj hc2 k u, ?_⟩
        rintro v h2 ⟨fs', bs, fm', mu, kp, hb, hD⟩
        obtain ⟨i1, i2, i3⟩ := INV_m hA hC0 hMo hRf h7 h4 hN hcc hv hR hSP (fun _ _ z _ => z) fm' mu kp
        rcases near_tie hTj hcj hN hp hb with ⟨e1, -⟩ | ⟨kb, pl, -, -, h5, h6, -⟩
        · rcases hD with ⟨-, rfl, g0⟩ | ⟨kb, h5, h6, -⟩
          · exact ⟨0, rfl, i1, ⟨fs', fm', i2.1, g0⟩, fun z => absurd z (by decide)⟩
          · exact absurd (h5.symm.trans e1) (nI_m1 (by omega))
        · have := hS.le (j + 1) (by omega)
          exact absurd (h6.symm.trans e) (nI_m1 (by omega))
      · refine ⟨0, 0, _, by omega, by omega, m_La_nearest fx hMo.2.2.2.2.2.2.2.2 (m_CB_nearest fx pT hS hj k u hno hpl (fun q hq => by rw [pNB_un hq hp]; exact e)) (fun v h' q => ⟨_, q.2⟩) (fun v h' q => by rw [q.1]; exact hMo.2.2.2.2.2.2.2.2), ?_⟩
        rintro v1 h1 ⟨rfl, an, h9, ⟨q1, q2⟩, u9⟩
        subst q1
        cases q2
        obtain ⟨iC1, iM1, x1⟩ := out_w hA hC0 hMo u9
        refine ⟨0, rfl, ⟨fs, iM1.1⟩, 1, _, by omega, m_Mo_nearest iM1.1 hRf.1 h4 hRf.2.1 hRf.2.2.1 hRf.2.2.2.1 iM1.2.1 iM1.2.2.1 iM1.2.2.2.1 hN hj hc2 k u, ?_⟩
        rintro v h2 ⟨fs', bs, fm', mu, kp, hb, hD⟩
        obtain ⟨i1, i2, i3⟩ := INV_m hA iC1 iM1 hRf h7 h4 hN hcc hv hR hSP x1 fm' mu kp
        have hm := hS.le (j + 1) (by omega)
        rcases near_tie hTj hcj hN hp hb with ⟨-, e1⟩ | ⟨kb, pl', h3, h4', h5, h6, h8⟩
        · exact absurd (e.symm.trans e1) (nI_m1 (by omega))
        · rcases hD with ⟨e1, -⟩ | ⟨kb', e1, h6', rfl, g0⟩
          · exact absurd (h3.symm.trans e1) (nI_m1 (by omega))
          · have ek : kb' = kb := (nI_eq (by omega) (by omega)).mp (e1.symm.trans h3)
            have ep : pl' = pl := (nI_eq (by omega) (by omega)).mp (h6.symm.trans e)
            subst ek; subst ep
            exact ⟨_, rfl, i1, ⟨fs', fm', i2.1, g0⟩, fun _ => ⟨_, i3, by rw [o_of, h8]⟩⟩
/-- two answers and the invariant -/
def EndA (V : xV) (A : Nat → Nat) (v1 v : Option Value) (h2 : xH) : Prop := ∃ a : Int32, v1 = some (.int a) ∧ v = some (.int a) ∧ INV V A h2
def EndN (V : xV) (A : Nat → Nat) (v1 v : Option Value) (h2 : xH) : Prop := v1 = none ∧ v = none ∧ INV V A h2
theorem step_all {V : xV} {A : Nat → Nat} {h : xH} (hI : INV V A h) : PairI V A h y_CB_all b_CB_all 1 y_Mo_all b_Mo_all 1 (some .int) 0 0 (EndA V A) := by
  obtain ⟨ks, ns, f, c, s, g, c2, of, f2, hk, hn, n, N, SS, st, gv, on, en, fp, sp, tt, fs, o, hA, hCl, hMo, hRf, h7, h4, hN, hcc, hv, hR, hSP⟩ := hI
  have hC0 := hCl
  obtain ⟨fx, pK, pT, fU, frd, hS, h00, hC⟩ := hCl
  refine ⟨1, _, by omega, m_CB_all fx pT, ?_⟩
  rintro v1 h1 ⟨rfl, rfl⟩
  refine ⟨⟨fs, hMo.1⟩, 0, _, by omega, m_Mo_all hMo.1 hRf.1 h4, ?_⟩
  rintro v h2 ⟨rfl, fm', kp⟩
  obtain ⟨i1, i2, i3⟩ := INV_m hA hC0 hMo hRf h7 h4 hN hcc hv hR hSP (fun _ _ z _ => z) fm' (mUp.rf.set (by decide)) kp
  exact ⟨_, rfl, by rw [hS.1 10 (by omega), ← tie_all hR hS h00], i1⟩
theorem step_clear {V : xV} {A : Nat → Nat} {h : xH} (hI : INV V A h) : PairI V A h y_CB_clear b_CB_clear 1 y_Mo_clear b_Mo_clear 2 none 0 0 (EndN V A) := by
  obtain ⟨ks, ns, f, c, s, g, c2, of, f2, hk, hn, n, N, SS, st, gv, on, en, fp, sp, tt, fs, o, hA, hCl, hMo, hRf, h7, h4, hN, hcc, hv, hR, hSP⟩ := hI
  have hC0 := hCl
  obtain ⟨fx, pK, pT, fU, frd, hS, h00, hC⟩ := hCl
  refine ⟨1, _, by omega, m_CB_clear fx pK pT fU frd, ?_⟩
  rintro v1 h1 ⟨rfl, c', s', pK', pT', hc', hs', hs0, fU', kp1⟩
  have iM1 := hMo.keep hA kp1 (by simp)
  have hx1 : h1 (A 0) = some (oCB (A 1) (A 4) (A 8)) := kp1.get fx (nm_c (x_ne fx pK.1 (by simp)) (nm_c (x_ne fx pT.2.2.1 (by simp)) (nm_c (x_ne fx pT.2.2.2 (by simp)) (nm_c (x_ne fx fU (by simp)) nm_n))))
  have hrd1 : h1 (A 9) = some (xI V 16 g) := kp1.get frd (nm_c (x_ne frd pK.1 (by simp)) (nm_c (x_ne frd pT.2.2.1 (by simp)) (nm_c (x_ne frd pT.2.2.2 (by simp)) (nm_c (x_ne frd fU (by simp)) nm_n))))
  have iC1 : iCl V A h1 ks ns 0 f c' s' (fun _ => 0) .null 0 0 0 0 0 tt g := ⟨hx1, pK', pT', fU', hrd1, ⟨fun i hi => by
    rcases Nat.eq_zero_or_pos i with z | z
    · rw [z, hs0, hS.1 0 (by omega), h00]
    · rw [hs' i z (by omega)]; rfl, fun _ _ => Nat.le_refl _, Nat.zero_le _⟩, rfl, fun t ht => ⟨0, by omega, hc' t ht⟩⟩
  refine ⟨⟨fs, iM1.1⟩, 1, _, by omega, m_Mo_clear iM1.1 hRf.1 hRf.2.1 iM1.2.1, ?_⟩
  rintro v h2 ⟨rfl, fs', c2', fm', mu, fco', hz, kp2, g0, g4, g7, g11, g17, g18, g19, g20, g21⟩
  have iC2 := iC1.keep hA kp2 (by simp)
  have hM2 : iMo V A h2 fs' c2' of f2 ks ns hk hn o := by
    obtain ⟨m1, m2, m3, m4, m5, m6, m7, m8, m9⟩ := iM1
    exact ⟨fm', fco', kp2.get m3 (nm_c (x_ne m3 m1 (by simp)) (nm_c (x_ne m3 m2 (by simp)) nm_n)), kp2.get m4 (nm_c (x_ne m4 m1 (by simp)) (nm_c (x_ne m4 m2 (by simp)) nm_n)), kp2.get m5 (nm_c (x_ne m5 m1 (by simp)) (nm_c (x_ne m5 m2 (by simp)) nm_n)), kp2.get m6 (nm_c (x_ne m6 m1 (by simp)) (nm_c (x_ne m6 m2 (by simp)) nm_n)), kp2.get m7 (nm_c (x_ne m7 m1 (by simp)) (nm_c (x_ne m7 m2 (by simp)) nm_n)), kp2.get m8 (nm_c (x_ne m8 m1 (by simp)) (nm_c (x_ne m8 m2 (by simp)) nm_n)), kp2.get m9 (nm_c (x_ne m9 m1 (by simp)) (nm_c (x_ne m9 m2 (by simp)) nm_n))⟩
  have hkeep : (∃ r, fs[22]? = some (.long r)) ∧ (∃ r, fs[12]? = some (.int r)) ∧ (∃ r, fs[13]? = some (.int r)) := by
    rcases hSP with ⟨-, -, -, -, a1, -, a2, a3, -⟩ | ⟨S, np, nb, pk, cd, fr, T, n0, dd, po, cp, pick, g0, ks0, ns0, cf, sta, aT, bT, row, told, -, -, -, hF, -⟩
    · exact ⟨a1, a2, a3⟩
    · exact ⟨⟨_, hF.2.2.2.2.2.2.2.2.2.2.2⟩, ⟨_, hF.2.1⟩, ⟨_, hF.2.2.1⟩⟩
  obtain ⟨⟨r1, k1⟩, ⟨r2, k2⟩, ⟨r3, k3⟩⟩ := hkeep
  exact ⟨rfl, rfl, ⟨ks, ns, f, c', s', g, c2', of, f2, hk, hn, 0, 0, fun _ => 0, .null, 0, 0, 0, 0, 0, tt, fs', o, hA, iC2, hM2, hRf.up mu (by decide), g7, g4, by omega, fun t ht => by rw [hz t ht, hc' t ht], fun i hi => absurd hi (Nat.not_lt_zero i), tie_zero (fun _ _ => rfl),
    Or.inl ⟨rfl, g11, ⟨_, g21⟩, ⟨_, g18⟩, ⟨_, mu.get k1 (by decide)⟩, ⟨_, g17⟩, ⟨_, mu.get k2 (by decide)⟩, ⟨_, mu.get k3 (by decide)⟩, ⟨_, g19⟩, ⟨_, g20⟩⟩⟩⟩
