/-! CALLS: width, column -/
section WIDE
variable {dd : tD} {ks0 ns0 : Nat → Int32} {n0 : Nat} {hk hn c c2 : Nat → Int32} {np : Nat} {pick : Nat → Int32} {cf : Nat → tCd} {g0 : Nat → Int32} {fr T : Nat}
/-- how the list of a SELECT looks to the reference -/
theorem iPu.list (h : iPu dd ks0 ns0 n0 hk hn c np pick cf g0 fr T) (h3 : dd.1.1 = 3) : hn 0 = 3 ∧ ((dd.1.2.1 = 4 ∧ hk 1 = 0 ∧ hn 1 = 4) ∨ (dd.1.2.1 = 5 ∧ hk 1 = 0 ∧ hn 1 = 5) ∨ (dd.1.2.1 = 6 ∧ hk 1 = 0 ∧ hn 1 = 6 ∧ np = 1 ∧ hk 2 = 2 ∧ hn 2 = pick 0 ∧ 2 < n0) ∨ (dd.1.2.1 = -1 ∧ hk 1 = 2 ∧ 0 < np ∧ np + 1 < n0 ∧ (∀ j, j < np → hk (1 + j) = 2 ∧ hn (1 + j) = pick j) ∧ hk (1 + np) = 0)) := by
  obtain ⟨hv, hh⟩ := h.had
  have hn4 := h.2.2.2.2.2.1
  rcases tp_shape h.1 with ⟨-, -, -, -, -, e⟩ | ⟨i, -, -, -, -, -, -, e⟩ | ⟨k, -, -, -, -, -, -, e⟩ | ⟨r, Q, k, ls, h0, hL, h7, h1, -, -, -, -, e⟩
  · rw [e] at h3; exact absurd (show (0 : Int32) = 3 from h3) (by decide)
  · rw [e] at h3; exact absurd (show (1 : Int32) = 3 from h3) (by decide)
  · rw [e] at h3; exact absurd (show (2 : Int32) = 3 from h3) (by decide)
  · have hQ := (tK_iff.mp h1).1
    have hsh := tl_shape hL
    have hn2 : 1 < n0 := by rcases hsh with z | z | z | z <;> omega
    have a0 := hh 0 (by omega)
    have a1 := hh 1 hn2
    refine ⟨a0.2.trans h0, ?_⟩
    have els : dd.1.2.1 = ls := by rw [e]
    have er : dd.2.2.1 = r := by rw [e]
    have est : dd.2.2.2.1 = if ls = 6 then 2 else 1 := by rw [e]
    rcases hsh with ⟨hw, hls, hr, hq⟩ | ⟨hw, hls, hr, hq⟩ | ⟨hw, hls, hr, hq, h2⟩ | ⟨hls, hr0, hr8, hq, h2⟩
    · have w := tW_iff.mp hw
      exact Or.inl ⟨els.trans hls, a1.1.trans w.2.1, a1.2.trans (Int32.le_antisymm (Int32.not_lt.mp w.2.2.2) (Int32.not_lt.mp w.2.2.1))⟩
    · have w := tW_iff.mp hw
      exact Or.inr (Or.inl ⟨els.trans hls, a1.1.trans w.2.1, a1.2.trans (Int32.le_antisymm (Int32.not_lt.mp w.2.2.2) (Int32.not_lt.mp w.2.2.1))⟩)
    · have w := tW_iff.mp hw
      have h4 := hn4 (by rw [els, hls]; decide)
      have a2 := hh 2 (by omega)
      have e9 : pick 0 = ns0 2 := by rw [h4.2 0 (by omega), est, if_pos hls]
      exact Or.inr (Or.inr (Or.inl ⟨els.trans hls, a1.1.trans w.2.1, a1.2.trans (Int32.le_antisymm (Int32.not_lt.mp w.2.2.2) (Int32.not_lt.mp w.2.2.1)), by omega, a2.1.trans (tK_iff.mp h2).2, a2.2.trans e9.symm, by omega⟩))
    · have h4 := hn4 (by rw [els, hls]; decide)
      have hnr : np = r := by omega
      refine Or.inr (Or.inr (Or.inr ⟨els.trans hls, a1.1.trans (tK_iff.mp (h2 0 hr0)).2, by omega, by omega, fun j hj => ?_, ?_⟩))
      · have a2 := hh (1 + j) (by omega)
        have h5 := h4.2 j hj
        rw [est, if_neg (by rw [hls]; decide)] at h5
        exact ⟨a2.1.trans (tK_iff.mp (h2 j (by omega))).2, a2.2.trans h5.symm⟩
      · rw [(hh (1 + np) (by omega)).1, show 1 + np = Q by omega]; exact h7
theorem iPu.noSel (h : iPu dd ks0 ns0 n0 hk hn c np pick cf g0 fr T) (h3 : ¬ dd.1.1 = 3) : ¬ hn 0 = 3 ∧ ¬ (dd.1.2.1 = 5 ∨ dd.1.2.1 = 6) ∧ np = 0 := by
  obtain ⟨hv, hh⟩ := h.had
  have hn4 := h.2.2.2.2.2.1
  have h2 := tp_two h.1
  have e0 : dd.1.1 = ns0 0 := (tp_tabs hv h.1).2.2
  refine ⟨fun z => h3 (by rw [e0, ← (hh 0 (by omega)).2]; exact z), ?_⟩
  rcases tp_shape h.1 with ⟨-, -, -, -, -, e⟩ | ⟨i, -, -, -, -, -, -, e⟩ | ⟨k, -, -, -, -, -, -, e⟩ | ⟨r, Q, k, ls, h0, hL, h7, h1, -, -, -, -, e⟩
  · have els : dd.1.2.1 = -1 := by rw [e]
    exact ⟨by rw [els]; decide, by rw [(hn4 (by rw [els]; decide)).1, e]⟩
  · have els : dd.1.2.1 = -1 := by rw [e]
    exact ⟨by rw [els]; decide, by rw [(hn4 (by rw [els]; decide)).1, e]⟩
  · have els : dd.1.2.1 = -1 := by rw [e]
    exact ⟨by rw [els]; decide, by rw [(hn4 (by rw [els]; decide)).1, e]⟩
  · exact absurd (by rw [e]) h3
theorem iPu.wide (h : iPu dd ks0 ns0 n0 hk hn c np pick cf g0 fr T) (hcc : ∀ t, t < 10 → c2 t = c t) : mWide hk hn c2 dd.1.2.2.1 dd.1.2.2.2.1 np = (if dd.1.2.1 = 5 ∨ dd.1.2.1 = 6 then 1 else nI np) ∧ (hn 0 = 3 → (∃ t, t < 10 ∧ dd.1.2.2.1 = nI t) ∧ (dd.1.2.2.2.1 = -1 ∨ ∃ t, t < 10 ∧ dd.1.2.2.2.1 = nI t) ∧ (¬ hk 1 = 0 → np + 1 < 60 ∧ (∀ j, j < np → hk (1 + j) = 2) ∧ ¬ hk (1 + np) = 2)) := by
  obtain ⟨hv, hh⟩ := h.had
  obtain ⟨ht1, ht2, e0⟩ := tp_tabs hv h.1
  have hn6 := h.2.1
  unfold mWide
  by_cases h3 : dd.1.1 = 3
  · obtain ⟨a0, hl⟩ := h.list h3
    rw [if_neg (fun z => z a0)]
    rcases hl with ⟨l1, l2, l3⟩ | ⟨l1, l2, l3⟩ | ⟨l1, l2, l3, -⟩ | ⟨l1, l2, l3, l4, l5, l6⟩
    · rw [if_neg (fun z => z.2 l3), if_pos l2, if_neg (show ¬ (dd.1.2.1 = 5 ∨ dd.1.2.1 = 6) by rw [l1]; decide)]
      refine ⟨?_, fun _ => ⟨ht1, ht2, fun z => absurd l2 z⟩⟩
      obtain ⟨nf, nq, k1, k2, k3, k4, k5, -⟩ := (h.2.2.2.2.2.2.2 (by rw [h3]; decide)).2.2.2.2.2 l1
      rw [colOf_eq hcc, colOf_eq hcc, k1, k2]
      by_cases hs : dd.1.2.2.2.1 = -1
      · rw [if_pos hs]
        rw [hs, colOf_m1] at k2
        have : nq = 0 := (nI_eq (b := 0) (by omega) (by omega)).mp k2.symm
        rw [Int32.add_zero, k5, this, Nat.add_zero]
      · rw [if_neg hs, nI_add, k5]
    · rw [if_pos ⟨l2, by rw [l3]; decide⟩, if_pos (Or.inl l1)]
      exact ⟨rfl, fun _ => ⟨ht1, ht2, fun z => absurd l2 z⟩⟩
    · rw [if_pos ⟨l2, by rw [l3]; decide⟩, if_pos (Or.inr l1)]
      exact ⟨rfl, fun _ => ⟨ht1, ht2, fun z => absurd l2 z⟩⟩
    · rw [if_neg (fun z => absurd (z.1.symm.trans l2) (by decide)), if_neg (by rw [l2]; decide), if_neg (by rw [l1]; decide)]
      exact ⟨rfl, fun _ => ⟨ht1, ht2, fun _ => ⟨by omega, fun j hj => (l5 j hj).1, by rw [l6]; decide⟩⟩⟩
  · obtain ⟨a0, a1, a2⟩ := h.noSel h3
    rw [if_pos a0, if_neg a1, a2]
    exact ⟨rfl, fun z => absurd z a0⟩
end WIDE
theorem step_width {V : xV} {A : Nat → Nat} {h : xH} (hI : INV V A h) : PairW V A h y_La_width b_La_width 3 hs_width [.ref (A 0), .ref (A 18)] y_Mo_width b_Mo_width 1 (some .int) [.ref (A 10)] (EndI V A) := by
  obtain ⟨ks, ns, f, c, s, g, c2, of, f2, hk, hn, n, N, SS, st, gv, on, en, fp, sp, tt, fs, o, hA, hCl, hMo, hRf, h7, h4, hN, hcc, hv, hR, hSP⟩ := hI
  have hC0 := hCl
  have hSP0 := hSP
  obtain ⟨fx, pK, pT, fU, frd, hS, h00, hC⟩ := hCl
  rcases hSP with ⟨rfl, a1, -, -, -, -, ⟨r5, a5⟩, ⟨r6, a6⟩, -⟩ | ⟨S, np, nb, pk, cd, fr, T, n0, dd, po, cp, pick, g0, ks0, ns0, cf, sta, aT, bT, row, told, rfl, hSt, hPu, hFd, hRn⟩
  · refine ⟨1, 6, _, by omega, by omega, m_La_widthS fx (t_CB_widthS fx fU), ?_⟩
    rintro v1 h1 ⟨rfl, rfl⟩
    refine ⟨1, rfl, ⟨fs, hMo.1⟩, 2, _, by omega, m_Mo_width (r := 0) hMo.1 hRf.1 a1 hRf.2.2.2.2.2.2.1 hRf.2.2.2.2.2.2.2 hRf.2.1 a5 a6 hMo.2.2.2.2.2.2.1 hMo.2.2.2.2.2.2.2.1 hMo.2.1 (fun z => absurd rfl z), ?_⟩
    rintro v h2 ⟨fs', fm', mu, kp, ⟨-, rfl, b0⟩ | ⟨z, -⟩⟩
    · obtain ⟨i1, i2, i3⟩ := INV_m hA hC0 hMo hRf h7 h4 hN hcc hv hR hSP0 (fun _ _ z _ => z) fm' mu kp
      exact ⟨0, rfl, i1, ⟨_, fm', i2.1, b0⟩, fun z => absurd z (by decide)⟩
    · exact absurd rfl z
  · obtain ⟨hw1, hw2⟩ := hPu.wide hcc
    refine ⟨0, 0, _, by omega, by omega, m_La_width fx hMo.2.2.2.2.2.2.2.2 (m_CB_width fx fU hSt.1) (fun v h' q => ⟨_, q.2⟩) (fun v h' q => by rw [q.1]; exact hMo.2.2.2.2.2.2.2.2), ?_⟩
    rintro v1 h1 ⟨rfl, an, h9, ⟨q1, q2⟩, u⟩
    subst q1
    cases q2
    obtain ⟨iC1, iM1, x1⟩ := out_w hA hC0 hMo u
    refine ⟨0, rfl, ⟨fs, iM1.1⟩, 2, _, by omega, m_Mo_width (r := np) iM1.1 hRf.1 hFd.1 hRf.2.2.2.2.2.2.1 hRf.2.2.2.2.2.2.2 hRf.2.1 hFd.2.1 hFd.2.2.1 iM1.2.2.2.2.2.2.1 iM1.2.2.2.2.2.2.2.1 iM1.2.1 (fun _ => hw2), ?_⟩
    rintro v h2 ⟨fs', fm', mu, kp, ⟨z, -⟩ | ⟨-, rfl, b0⟩⟩
    · exact absurd z (by decide)
    · obtain ⟨i1, i2, i3⟩ := INV_m hA iC1 iM1 hRf h7 h4 hN hcc hv hR hSP0 x1 fm' mu kp
      exact ⟨_, rfl, i1, ⟨_, fm', i2.1, b0⟩, fun _ => ⟨_, i3, by rw [o_of, hw1]⟩⟩
theorem step_column {V : xV} {A : Nat → Nat} {h : xH} (hI : INV V A h) (x : Int32) : PairW V A h y_La_column b_La_column 4 hs_column [.ref (A 0), .int x, .ref (A 18)] y_Mo_column b_Mo_column 3 (some .long) [.ref (A 10), .int x] (EndJ V A) := by
  obtain ⟨ks, ns, f, c, s, g, c2, of, f2, hk, hn, n, N, SS, st, gv, on, en, fp, sp, tt, fs, o, hA, hCl, hMo, hRf, h7, h4, hN, hcc, hv, hR, hSP⟩ := hI
  have hC0 := hCl
  have hSP0 := hSP
  obtain ⟨fx, pK, pT, fU, frd, hS, h00, hC⟩ := hCl
  -- nothing is at hand
  have none1 : ∀ {th rw : Int32}, fs[11]? = some (.int th) → fs[21]? = some (.int rw) → (th = 0 ∨ rw = 0) → ∃ d' Q, d' ≤ 8 ∧ xM V y_Mo_column b_Mo_column 3 (some .long) d' [.ref (A 10), .int x] h 0 0 Q ∧ ∀ v h2, Q v h2 → EndJ V A 1 v h2 := by
    intro th rw e1 e2 hz
    refine ⟨0, _, by omega, m_Mo_columnN hMo.1 hRf.1 e1 e2 x hz, ?_⟩
    rintro v h2 ⟨rfl, fs', fm', mu, kp, b0⟩
    obtain ⟨i1, i2, i3⟩ := INV_m hA hC0 hMo hRf h7 h4 hN hcc hv hR hSP0 (fun _ _ z _ => z) fm' mu kp
    exact ⟨0, rfl, i1, ⟨_, fm', i2.1, b0⟩, fun z => absurd z (by decide)⟩
  rcases hSP with ⟨rfl, a1, ⟨r2, a2⟩, -⟩ | ⟨S, np, nb, pk, cd, fr, T, n0, dd, po, cp, pick, g0, ks0, ns0, cf, sta, aT, bT, row, told, rfl, hSt, hPu, hFd, hRn⟩
  · refine ⟨1, 6, _, by omega, by omega, m_La_columnS fx (t_CB_columnS1 fx fU x), ?_⟩
    rintro v1 h1 ⟨rfl, rfl⟩
    exact ⟨1, rfl, ⟨fs, hMo.1⟩, none1 a1 a2 (Or.inl rfl)⟩
  · obtain ⟨d1, d2, d3, d4, d5, d6, d7, d8, d9, d10, d11, d12⟩ := hFd
    have hon : (on = 0 ∧ row = 0) ∨ (on = 1 ∧ row = 1 ∧ dd.1.1 = 3 ∧ (((dd.1.2.1 = 5 ∨ dd.1.2.1 = 6) ∧ told = tt) ∨ (¬ (dd.1.2.1 = 5 ∨ dd.1.2.1 = 6) ∧ iCur dd f c SS of f2 N on fp sp aT bT g))) := by
      rcases hRn with ⟨-, e1, -, -, -, e2⟩ | ⟨e0, e1, e2⟩ | ⟨e0, e1, e2⟩
      · exact Or.inl ⟨e1, e2⟩
      · rcases e2 with ⟨-, z1, -, -, -, -, z2⟩ | ⟨-, z1, -, -, z2, z3⟩ | ⟨-, z1, -, -, z2⟩
        · exact Or.inl ⟨z1, z2⟩
        · exact Or.inr ⟨z1, z2, e0, Or.inl ⟨e1, z3⟩⟩
        · exact Or.inl ⟨z1, z2⟩
      · rcases e2 with ⟨-, z1, -, z2⟩ | ⟨-, -, z1, z2⟩
        · exact Or.inl ⟨z1, z2⟩
        · have z3 := z2
          obtain ⟨_, _, _, _, _, _, _, -, -, -, -, -, -, -, -, -, -, -, z4⟩ := z3
          rcases z4 with z4 | ⟨z4, -⟩
          · exact Or.inl ⟨z4, z1.trans z4⟩
          · exact Or.inr ⟨z4, z1.trans z4, e0, Or.inr ⟨e1, z2⟩⟩
    rcases hon with ⟨rfl, rfl⟩ | ⟨rfl, rfl, h3, hon⟩
    · refine ⟨1, 6, _, by omega, by omega, m_La_columnS fx (t_CB_columnS2 (on := 0) fx fU x), ?_⟩
      rintro v1 h1 ⟨rfl, rfl⟩
      exact ⟨1, rfl, ⟨fs, hMo.1⟩, none1 d1 d11 (Or.inr rfl)⟩
    · obtain ⟨hw1, hw2⟩ := hPu.wide hcc
      obtain ⟨a0, hl⟩ := hPu.list h3
      by_cases hout : x < 0 ∨ (if dd.1.2.1 = 5 ∨ dd.1.2.1 = 6 then 1 else nI np) ≤ x
      · refine ⟨1, 6, _, by omega, by omega, m_La_columnX fx (t_CB_columnX (on := 0) fx fU hSt.1 x hout), ?_⟩
        rintro v1 h1 ⟨rfl, rfl⟩
        refine ⟨2, rfl, ⟨fs, hMo.1⟩, 2, _, by omega, m_Mo_columnX (r := np) hMo.1 hRf.1 d1 d11 hRf.2.2.2.2.2.2.1 hRf.2.2.2.2.2.2.2 hRf.2.1 d2 d3 hMo.2.2.2.2.2.2.1 hMo.2.2.2.2.2.2.2.1 hMo.2.1 hw2 x (by rw [hw1]; exact hout), ?_⟩
        rintro v h2 ⟨rfl, fs', fm', mu, kp, b0⟩
        obtain ⟨i1, i2, i3⟩ := INV_m hA hC0 hMo hRf h7 h4 hN hcc hv hR hSP0 (fun _ _ z _ => z) fm' mu kp
        exact ⟨0, rfl, i1, ⟨_, fm', i2.1, b0⟩, fun z => absurd z (by decide)⟩
      · have hx0 : ¬ x < 0 := fun z => hout (Or.inl z)
        have hx1 : ¬ (if dd.1.2.1 = 5 ∨ dd.1.2.1 = 6 then 1 else nI np) ≤ x := fun z => hout (Or.inr z)
        obtain ⟨k, hk31, rfl⟩ := nI_of hx0
        have hnp := hPu.2.2.2.1
        have hkn : ¬ (dd.1.2.1 = 5 ∨ dd.1.2.1 = 6) → k < np := fun z => by rw [if_neg z] at hx1; exact nlt_of hx1 (by omega) hk31
        have hpin : ¬ (dd.1.2.1 = 5 ∨ dd.1.2.1 = 6) → vp_in (pick k) 16 ∧ opThere 2 (pick k) (colOf c dd.1.2.2.1) (colOf c dd.1.2.2.2.1) = true ∧ tokOK 2 (pick k) = true := fun z => by
          have hk9 := hkn z
          have h0 : ¬ dd.1.1 = 0 := by rw [h3]; decide
          obtain ⟨-, -, -, q4, -, q6⟩ := hPu.2.2.2.2.2.2.2 h0
          by_cases h44 : dd.1.2.1 = 4
          · obtain ⟨nf, nq, k1, k2, k3, k4, k5, k6, k8⟩ := q6 h44
            rw [k1, k2]
            rcases Nat.lt_or_ge k nf with y | y
            · rw [k6 k y]
              refine ⟨vp_in_nI (by omega) (by decide), ?_, ?_⟩
              · unfold opThere
                rw [if_neg (by decide), if_neg (fun w => nine_lo (j := k) (by omega) (nine.mpr w)), decide_eq_false (nI_ge y (by omega))]; rfl
              · unfold tokOK
                rw [if_neg (by decide), if_neg (by decide), if_pos rfl, col05, decide_eq_false (nI_pos (by omega)), decide_eq_false (show ¬ 5 < nI k from nI_nlt (a := 5) (by omega) (by omega))]; rfl
            · have e9 : pick k = nI (10 + (k - nf)) := by
                have := k8 (k - nf) (by omega)
                rw [show nf + (k - nf) = k by omega] at this
                rw [this]; exact nI_add 10 _
              rw [e9]
              refine ⟨vp_in_nI (by omega) (by decide), ?_, ?_⟩
              · unfold opThere
                rw [if_neg (by decide), if_pos (nine.mp (nine_hi (by omega))), ten_off, decide_eq_false (nI_ge (show k - nf < nq by omega) (by omega))]; rfl
              · unfold tokOK
                rw [if_neg (by decide), if_neg (by decide), if_pos rfl, col1015, decide_eq_false (show ¬ nI (10 + (k - nf)) < 10 from nI_nlt (b := 10) (by omega) (by omega)), decide_eq_false (show ¬ 15 < nI (10 + (k - nf)) from nI_nlt (a := 15) (by omega) (by omega)), Bool.or_comm]; rfl
          · obtain ⟨e5, e6⟩ := hPu.2.2.2.2.2.1 h44
            obtain ⟨b1, b2⟩ := (tp_cols hPu.1).1 k (by omega)
            have hv9 := hPu.had.1 _ b1
            rw [b2] at hv9
            rw [e6 k hk9]
            refine ⟨(op_in (Or.inl rfl) hv9).resolve_left (by decide), q4 k (by omega), hv9⟩
        refine ⟨0, 0, _, by omega, by omega, m_La_column fx hMo.2.2.2.2.2.2.2.2 (m_CB_column (on := 0) fx fU hSt.1 hSt.2.2.1 frd hSt.2.2.2.2.1 hnp (by
            by_cases z : dd.1.2.1 = 5 ∨ dd.1.2.1 = 6
            · exact Or.inl z
            · exact Or.inr ⟨hkn z, (hpin z).1⟩) hk31 hx1) (fun v h' q => ⟨_, q.2⟩) (fun v h' q => by rw [q.1]; exact hMo.2.2.2.2.2.2.2.2), ?_⟩
        rintro v1 h1 ⟨rfl, an, h9, ⟨q1, q2⟩, u⟩
        subst q1
        cases q2
        obtain ⟨iC1, iM1, x1⟩ := out_w hA hC0 hMo u
        have hxw : nI k < mWide hk hn c2 dd.1.2.2.1 dd.1.2.2.2.1 np := by rw [hw1]; exact Int32.not_le.mp hx1
        refine ⟨0, rfl, ⟨fs, iM1.1⟩, ?_⟩
        have fin : ∀ {w : Int64}, (if dd.1.2.1 = 5 ∨ dd.1.2.1 = 6 then tt else (opVal 2 (pick k) g).toInt64) = w → ∀ v h2, (v = some (Value.long w) ∧ ∃ fs', h2 (A 10) = some (.inr (8, fs')) ∧ mUp [0] fs fs' ∧ xKeep [A 10] h1 h2 ∧ fs'[0]? = some (.int 0)) → EndJ V A 0 v h2 := by
          rintro w ew v h2 ⟨rfl, fs', fm', mu, kp, b0⟩
          obtain ⟨i1, i2, i3⟩ := INV_m hA iC1 iM1 hRf h7 h4 hN hcc hv hR hSP0 x1 fm' mu kp
          exact ⟨_, rfl, i1, ⟨_, fm', i2.1, b0⟩, fun _ => ⟨_, i3, by rw [← ew]; exact pk_uLs⟩⟩
        rcases hon with ⟨ht, rfl⟩ | ⟨ht, hcur⟩
        · have hfo : hk 1 = 0 ∧ ¬ hn 1 = 4 := by
            rcases hl with ⟨l1, -⟩ | ⟨l1, l2, l3⟩ | ⟨l1, l2, l3, -⟩ | ⟨l1, -⟩
            · rw [l1] at ht; exact absurd ht (by decide)
            · exact ⟨l2, by rw [l3]; decide⟩
            · exact ⟨l2, by rw [l3]; decide⟩
            · rw [l1] at ht; exact absurd ht (by decide)
          exact ⟨2, _, by omega, m_Mo_columnT (r := np) iM1.1 hRf.1 d1 d11 hRf.2.2.2.2.2.2.1 hRf.2.2.2.2.2.2.2 hRf.2.1 d2 d3 d12 iM1.2.2.2.2.2.2.1 iM1.2.2.2.2.2.2.2.1 iM1.2.1 hw2 (nI k) hx0 hxw hfo, fin (if_pos ht)⟩
        · obtain ⟨t1, t2, n2, i, j, p1, p2, ht1, e1, he2, -, -, hi, hj, o1, q1, o2, hcu, hrow⟩ := hcur
          rcases hrow with z | ⟨-, j', ej, hag⟩
          · exact absurd z (by decide)
          · subst ej
            have hp1 : ∀ k, k < SS (t1 + 1) - SS t1 → p1 k < 400 := fun k hk => o1.lt hN hk
            have hp2 : ¬ dd.1.2.2.2.1 = -1 → ∀ k, k < n2 → p2 k < 400 := fun z k hk => (o2 z).1.lt hN hk
            obtain ⟨hpi, hpt, hpv⟩ := hpin ht
            have hval := op_tie (Or.inl rfl) hpv hpt hag
            rw [if_neg (by decide)] at hval
            have hk9 := hkn ht
            rcases hl with ⟨l1, l2, l3⟩ | ⟨l1, -⟩ | ⟨l1, -⟩ | ⟨l1, l2, l3, l4, l5, l6⟩
            · -- ALL
              have h0 : ¬ dd.1.1 = 0 := by rw [h3]; decide
              obtain ⟨nf, nq, k1, k2, k3, k4, k5, k6, k8⟩ := (hPu.2.2.2.2.2.2.2 h0).2.2.2.2.2 l1
              have ec : c2 t1 = nI nf := by rw [hcc t1 ht1, ← k1, e1, colOf_nI ht1]
              rcases hcu with ⟨-, z, -⟩ | ⟨j9, ej, hi9, hj9, haT, hbT⟩
              · omega
              · have e9 : j9 = j' := by omega
                subst e9
                have hB : ¬ k < nf → bT = nI (p2 j9) ∧ p2 j9 < 400 ∧ k - nf < 6 := fun y => by
                  rcases hbT with ⟨z, -⟩ | ⟨z, z2⟩
                  · rw [z, colOf_m1] at k2
                    have : nq = 0 := (nI_eq (b := 0) (by omega) (by omega)).mp k2.symm
                    omega
                  · exact ⟨z2, hp2 z _ hj9, by omega⟩
                refine ⟨2, _, by omega, m_Mo_columnA (r := np) (xi := k) (a := p1 i) (b := p2 j9) (t1 := t1) (c1 := nf) iM1.1 hRf.1 d1 d11 hRf.2.2.2.2.2.2.1 hRf.2.2.2.2.2.2.2 hRf.2.1 d2 d3 d9 d10 hRf.2.2.2.1 iM1.2.2.2.2.2.2.1 iM1.2.2.2.2.2.2.2.1 iM1.2.1 iM1.2.2.2.1 hw2 hx0 hxw l2 l3 ht1 e1 ec k3 (by omega) (fun _ => ⟨haT, hp1 _ hi9⟩) hB, fin ?_⟩
                rw [if_neg ht, hval]
                rcases Nat.lt_or_ge k nf with y | y
                · rw [k6 k y, if_neg (nine_lo (by omega)), if_pos y, nI_clamp (by omega)]
                  unfold row6; rw [if_pos (by omega)]
                · have e10 : pick k = nI (10 + (k - nf)) := by
                    have := k8 (k - nf) (by omega)
                    rw [show nf + (k - nf) = k by omega] at this
                    rw [this]; exact nI_add 10 _
                  rw [e10, if_pos (nine_hi (by omega)), if_neg (by omega), ten_off, nI_clamp (by omega)]
                  unfold row6; rw [if_pos (by omega)]
            · exact absurd (Or.inl l1) ht
            · exact absurd (Or.inr l1) ht
            · -- a list of columns
              obtain ⟨l7, l8⟩ := l5 k hk9
              have htok : mTok hk hn dd.1.2.2.2.1 (1 + k) := tok_in (c := c) (a1 := dd.1.2.2.1) (Or.inl l7) (by rw [l7, l8]; exact hpv) (by rw [l7, l8]; exact hpt)
              refine ⟨2, _, by omega, m_Mo_columnL (r := np) (xi := k) (a := p1 i) (b := p2 j') iM1.1 hRf.1 d1 d11 hRf.2.2.2.2.2.2.1 hRf.2.2.2.2.2.2.2 hRf.2.1 d2 d3 d9 d10 hRf.2.2.2.1 iM1.2.2.2.2.2.2.1 iM1.2.2.2.2.2.2.2.1 iM1.2.1 iM1.2.2.2.1 hw2 hx0 hxw l2 (by have := hPu.2.1; omega) (htok.at_pair hcu hp1 hp2), fin ?_⟩
              rw [if_neg ht, hval, mVR_eq htok]
              unfold mVR
              rw [l7, if_neg (show ¬ (2 : Int32) = 3 by decide), l8]
