/-! TIE: what was read, and totals -/
theorem cut_at {m : Int32} {ra rb : Nat → Int32} (h : cut m ra = cut m rb) {k : Nat} (hk : nI k < m) : ra k = rb k := by
  have := congrFun h k
  unfold cut at this
  rw [if_pos hk, if_pos hk] at this
  exact this
theorem rd_agr {f g c f2 : Nat → Int32} {SS : Nat → Nat} {fi se fa : Int32} {t1 t2 n2 o1 a b b' : Nat} (ht1 : t1 < 10) (e1 : fi = nI t1) (h1 : cut (c t1) (row6 f2 (a * 6)) = cut (c t1) (row6 f o1)) (h2 : se = -1 ∨ (se = nI t2 ∧ t2 < 10 ∧ cut (c t2) (row6 f2 (b * 6)) = cut (c t2) (row6 f ((SS t2 + plc fa n2 b') * 6)))) :
    agr (colOf c fi) (colOf c se) (rdF f g o1 (sec se fa (SS t2) n2 b')) (row6 f2 (a * 6)) (row6 f2 (b * 6)) := by
  rw [e1, colOf_nI ht1]
  rcases h2 with e2 | ⟨e2, ht2, h3⟩
  · rw [e2, colOf_m1]
    refine ⟨fun k hk hc => ?_, fun k hk hc => absurd hc (nI_pos (by omega))⟩
    unfold sec
    rw [if_pos rfl, cut_at h1 hc]
    show va_cpy f g o1 0 6 k = _
    rw [pk_cpy_in (by omega) (by omega)]
    unfold row6
    rw [if_pos hk]; congr 1
  · have hne : ¬ se = -1 := by rw [e2]; exact nI_m1 (by omega)
    unfold sec
    rw [if_neg hne, e2, colOf_nI ht2]
    refine ⟨fun k hk hc => ?_, fun k hk hc => ?_⟩
    · rw [cut_at h1 hc]
      show va_cpy f (va_cpy f g o1 0 6) _ 10 6 k = _
      rw [pk_cpy_out (Or.inl (by omega)), pk_cpy_in (by omega) (by omega)]
      unfold row6
      rw [if_pos hk]; congr 1
    · rw [cut_at h3 hc]
      show va_cpy f (va_cpy f g o1 0 6) _ 10 6 (10 + k) = _
      rw [pk_cpy_in (by omega) (by omega)]
      unfold row6
      rw [if_pos hk]; congr 1; omega
theorem ite_tie {a b : Bool} {x y : Int64} (h : a = b) (hx : x = y) : (if a = true then x else 0) = (if b = true then y else 0) := by rw [h, hx]
section TOT
variable {dd : tD} {ks0 ns0 : Nat → Int32} {n0 : Nat} {hk hn c : Nat → Int32} {np : Nat} {pick : Nat → Int32} {cf : Nat → tCd} {g0 : Nat → Int32} {fr T : Nat} {f g of f2 : Nat → Int32} {SS : Nat → Nat} {N t1 t2 n2 : Nat} {p1 p2 : Nat → Nat}
/-- the condition of the class over what it read is the reference's over its rows -/
theorem gd_tie (hc : cdT ks0 ns0 hk hn n0 dd.2.2.2.2.2 dd.2.2.2.2.1 fr cf (colOf c dd.1.2.2.1) (colOf c dd.1.2.2.2.1)) (ht1 : t1 < 10) (e1 : dd.1.2.2.1 = nI t1) (e2 : (dd.1.2.2.2.1 = -1 ∧ n2 = 1) ∨ (dd.1.2.2.2.1 = nI t2 ∧ t2 < 10 ∧ n2 = SS (t2 + 1) - SS t2)) {a b q1 q2 : Nat} (h1 : cut (c t1) (row6 f2 (q1 * 6)) = cut (c t1) (row6 f ((SS t1 + plc (bI dd.1.2.2.2.2) (SS (t1 + 1) - SS t1) a) * 6))) (h2 : ¬ dd.1.2.2.2.1 = -1 → cut (c t2) (row6 f2 (q2 * 6)) = cut (c t2) (row6 f ((SS t2 + plc (bI dd.1.2.2.2.2) n2 b) * 6))) :
    agr (colOf c dd.1.2.2.1) (colOf c dd.1.2.2.2.1) (rdF f g ((SS t1 + plc (bI dd.1.2.2.2.2) (SS (t1 + 1) - SS t1) a) * 6) (sec dd.1.2.2.2.1 (bI dd.1.2.2.2.2) (SS t2) n2 b)) (row6 f2 (q1 * 6)) (row6 f2 (q2 * 6)) ∧
    cdsVal dd.2.2.2.2.1 cf (rdF f g ((SS t1 + plc (bI dd.1.2.2.2.2) (SS (t1 + 1) - SS t1) a) * 6) (sec dd.1.2.2.2.1 (bI dd.1.2.2.2.2) (SS t2) n2 b)) = mHR hk hn fr dd.2.2.2.2.1 (row6 f2 (q1 * 6)) (row6 f2 (q2 * 6)) := by
  have ha := rd_agr (g := g) (fa := bI dd.1.2.2.2.2) (n2 := n2) (b := q2) (b' := b) (SS := SS) (t2 := t2) ht1 e1 h1 (by
    rcases e2 with z | z
    · exact Or.inl z.1
    · exact Or.inr ⟨z.1, z.2.1, h2 (by rw [z.1]; exact nI_m1 (by omega))⟩ : dd.1.2.2.2.1 = -1 ∨ _)
  exact ⟨ha, hc.val ha⟩
theorem total_tie (h : iPu dd ks0 ns0 n0 hk hn c np pick cf g0 fr T) (h3 : dd.1.1 = 3) (hT : dd.1.2.1 = 5 ∨ dd.1.2.1 = 6) (ht1 : t1 < 10) (e1 : dd.1.2.2.1 = nI t1) (e2 : (dd.1.2.2.2.1 = -1 ∧ n2 = 1) ∨ (dd.1.2.2.2.1 = nI t2 ∧ t2 < 10 ∧ n2 = SS (t2 + 1) - SS t2)) (o1 : ordS of (fun k => f2 (k * 6)) (bI dd.1.2.2.2.2) N (nI t1) (SS (t1 + 1) - SS t1) p1) (q1 : ∀ a, a < SS (t1 + 1) - SS t1 → cut (c t1) (row6 f2 (p1 a * 6)) = cut (c t1) (row6 f ((SS t1 + plc (bI dd.1.2.2.2.2) (SS (t1 + 1) - SS t1) a) * 6)))
    (o2 : ¬ dd.1.2.2.2.1 = -1 → ordS of (fun k => f2 (k * 6)) (bI dd.1.2.2.2.2) N (nI t2) n2 p2 ∧ ∀ b, b < n2 → cut (c t2) (row6 f2 (p2 b * 6)) = cut (c t2) (row6 f ((SS t2 + plc (bI dd.1.2.2.2.2) n2 b) * 6))) :
    sumUp (fun a b => if (fun a b => cdsVal dd.2.2.2.2.1 cf (rdF f g ((SS t1 + plc (bI dd.1.2.2.2.2) (SS (t1 + 1) - SS t1) a) * 6) (sec dd.1.2.2.2.1 (bI dd.1.2.2.2.2) (SS t2) n2 b))) a b = true then (fun a b => if dd.1.2.1 = 5 then (1 : Int64) else (opVal 2 (pick 0) (rdF f g ((SS t1 + plc (bI dd.1.2.2.2.2) (SS (t1 + 1) - SS t1) a) * 6) (sec dd.1.2.2.2.1 (bI dd.1.2.2.2.2) (SS t2) n2 b))).toInt64) a b else 0) n2 (SS (t1 + 1) - SS t1) 0 = mTold hk hn of f2 dd.1.2.2.1 dd.1.2.2.2.1 fr dd.2.2.2.2.1 N := by
  have h0 : ¬ dd.1.1 = 0 := by rw [h3]; decide
  obtain ⟨hc, c1, c2', c4, -⟩ := h.2.2.2.2.2.2.2 h0
  obtain ⟨a0, hl⟩ := h.list h3
  -- the value that is added
  have hval : ∀ (F ra rb : Nat → Int32), agr (colOf c dd.1.2.2.1) (colOf c dd.1.2.2.2.1) F ra rb → (if dd.1.2.1 = 5 then (1 : Int64) else (opVal 2 (pick 0) F).toInt64) = (if hn 1 = 5 then (1 : Int64) else (mVR hk hn ra rb 2).toInt64) ∧ (hn 1 = 5 ∨ mTok hk hn dd.1.2.2.2.1 2) := by
    intro F ra rb ha
    rcases hl with ⟨l1, -⟩ | ⟨l1, l2, l3⟩ | ⟨l1, l2, l3, l4, l5, l6, l7⟩ | ⟨l1, -⟩
    · rw [l1] at hT; exact absurd hT (by decide)
    · rw [if_pos l1, if_pos l3]; exact ⟨rfl, Or.inl l3⟩
    · have hnl := h.2.2.2.2.2.1 (by rw [l1]; decide)
      have e5 : pick 0 = ns0 (dd.2.2.2.1 + 0) := hnl.2 0 (by omega)
      have hth := c4 0 (by omega)
      rw [← e5] at hth
      have hb := (tp_cols h.1).1 0 (by omega)
      have hv := h.had.1 _ hb.1
      rw [hb.2, ← e5] at hv
      rw [if_neg (by rw [l1]; decide), if_neg (by rw [l3]; decide), op_tie (Or.inl rfl) hv hth ha, if_neg (by decide)]
      unfold mVR
      rw [l5, if_neg (show ¬ (2 : Int32) = 3 by decide), l6]
      exact ⟨rfl, Or.inr (tok_in (c := c) (a1 := dd.1.2.2.1) (Or.inl l5) (by rw [l5, l6]; exact hv) (by rw [l5, l6]; exact hth))⟩
    · rw [l1] at hT; exact absurd hT (by decide)
  rw [sumUp_eq]
  unfold mTold
  rw [e1, sum_ord o1]
  refine sumRow_cong (fun a ha => ?_)
  have hq1 := q1 a ha
  by_cases hs : dd.1.2.2.2.1 = -1
  · have hn2 : n2 = 1 := by
      rcases e2 with z | z
      · exact z.2
      · exact absurd (z.1.symm.trans hs) (nI_m1 (by omega))
    obtain ⟨ha9, hg9⟩ := gd_tie (g := g) (b := 0) (q2 := p1 a) hc ht1 e1 e2 hq1 (fun z => absurd hs z)
    unfold mNb
    rw [if_pos hs, hn2]
    show (0 : Int64) + _ = 0 + _
    rw [Int64.zero_add, Int64.zero_add]
    rw [hn2] at hg9 ha9
    refine (ite_tie hg9 (hval _ _ _ ha9).1).trans ?_
    unfold mW
    have eg : mGd hk hn of f2 dd.1.2.2.2.1 fr dd.2.2.2.2.1 (p1 a) 0 = mHR hk hn fr dd.2.2.2.2.1 (row6 f2 (p1 a * 6)) (row6 f2 (p1 a * 6)) := by
      unfold mGd
      rw [if_pos hs, decide_eq_true hs]; rfl
    rw [eg]
    congr 1
    rcases (hval _ _ _ ha9).2 with z | z
    · rw [if_pos z, if_pos z]
    · by_cases z5 : hn 1 = 5
      · rw [if_pos z5, if_pos z5]
      · rw [if_neg z5, if_neg z5, mVR_eq z]
        congr 1
        unfold mVR
        rcases z with z | ⟨-, z2, -⟩ | ⟨z1, -⟩
        · rw [if_pos z, if_pos z]
        · exact absurd hs z2
        · by_cases zk : hk 2 = 3
          · rw [if_pos zk, if_pos zk]
          · rw [if_neg zk, if_neg zk, if_neg z1, if_neg z1]
  · obtain ⟨o2', q2'⟩ := o2 hs
    have e3 : dd.1.2.2.2.1 = nI t2 := by
      rcases e2 with z | z
      · exact absurd z.1 hs
      · exact z.1
    have e4 : ∀ b, mW hk hn of f2 dd.1.2.2.2.1 fr dd.2.2.2.2.1 (p1 a) b = if of b = nI t2 then (if mHR hk hn fr dd.2.2.2.2.1 (row6 f2 (p1 a * 6)) (row6 f2 (b * 6)) = true then (if hn 1 = 5 then (1 : Int64) else (mVal hk hn f2 2 (p1 a) b).toInt64) else 0) else 0 := by
      intro b
      by_cases hb : of b = nI t2
      · rw [if_pos hb]
        by_cases hm : mHR hk hn fr dd.2.2.2.2.1 (row6 f2 (p1 a * 6)) (row6 f2 (b * 6)) = true
        · rw [if_pos hm]
          unfold mW
          rw [if_pos (gd2_yes hs (by rw [e3]; exact hb) hm)]
        · rw [if_neg hm]
          exact mW_no (gd2_no2 hs (Bool.eq_false_iff.mpr hm))
      · rw [if_neg hb]
        exact mW_no (gd2_no1 hs (by rw [e3]; exact hb))
    unfold mNb
    rw [if_neg hs, sumRow_cong (fun b _ => e4 b), sum_ord o2']
    refine sumRow_cong (fun b hb => ?_)
    obtain ⟨ha9, hg9⟩ := gd_tie (g := g) (b := b) (q2 := p2 b) hc ht1 e1 e2 hq1 (fun _ => q2' b hb)
    refine (ite_tie hg9 (hval _ _ _ ha9).1).trans ?_
    congr 1
    rcases (hval _ _ _ ha9).2 with z | z
    · rw [if_pos z, if_pos z]
    · by_cases z5 : hn 1 = 5
      · rw [if_pos z5, if_pos z5]
      · rw [if_neg z5, if_neg z5, mVR_eq z]
end TOT
