theorem tS_eq {ks ns : Nat → Int32} {n p : Nat} {wd : Int32} : tS ks ns n p wd = tW ks ns n p wd wd := by
  unfold tS tW
  congr 1
  by_cases h : ns p = wd
  · rw [decide_eq_true h, h]
    simp [Int32.lt_irrefl]
  · rw [decide_eq_false h]
    by_cases h1 : ns p < wd
    · rw [decide_eq_true h1]; rfl
    · rw [decide_eq_false h1]
      by_cases h2 : wd < ns p
      · rw [decide_eq_true h2]; rfl
      · exact absurd (Int32.le_antisymm (Int32.not_lt.mp h2) (Int32.not_lt.mp h1)) h
theorem tW_cmp {ks ns : Nat → Int32} {n p : Nat} : tW ks ns n p 10 12 = (tS ks ns n p 10 || (tS ks ns n p 11 || tS ks ns n p 12)) := by
  by_cases hk : tK ks n p 0 = true
  · unfold tW tS
    rw [hk]
    simp only [Bool.true_and]
    have e10 : (10 : Int32).toInt = 10 := by decide
    have e11 : (11 : Int32).toInt = 11 := by decide
    have e12 : (12 : Int32).toInt = 12 := by decide
    have a1 : ns p < 10 ↔ (ns p).toInt < 10 := by rw [Int32.lt_iff_toInt_lt, e10]
    have a2 : (12 : Int32) < ns p ↔ 12 < (ns p).toInt := by rw [Int32.lt_iff_toInt_lt, e12]
    have b0 : ns p = 10 ↔ (ns p).toInt = 10 := by rw [← Int32.toInt_inj, e10]
    have b1 : ns p = 11 ↔ (ns p).toInt = 11 := by rw [← Int32.toInt_inj, e11]
    have b2 : ns p = 12 ↔ (ns p).toInt = 12 := by rw [← Int32.toInt_inj, e12]
    rw [Bool.eq_iff_iff]
    simp only [Bool.and_eq_true, Bool.not_eq_true', decide_eq_false_iff_not, Bool.or_eq_true, decide_eq_true_eq, a1, a2, b0, b1, b2]
    omega
  · unfold tW tS
    rw [Bool.eq_false_iff.mpr hk]
    rfl
/-- the reference's value of the token at t, over the rows a and b of its cells f -/
def mVal (hk hn f : Nat → Int32) (t a b : Nat) : Int32 := if hk t = 3 then hn t else if 9 < hn t then f (b * 6 + (hn t - 10).toNatClampNeg) else f (a * 6 + (hn t).toNatClampNeg)
/-- a column token names a place within a row, and the row is there -/
def mIn (hk hn : Nat → Int32) (t : Nat) (A B : Int32) (a b : Nat) : Prop := hk t = 3 ∨ (9 < hn t ∧ B = nI b ∧ b < 400 ∧ vp_in (hn t - 10) 6) ∨ (¬ 9 < hn t ∧ A = nI a ∧ a < 400 ∧ vp_in (hn t) 6)
theorem all_step {j : Nat} {b z : Bool} {p : Nat → Bool} (h : b = decide (∀ i, i < j → p i = true)) (hz : p j = z) : (b && z) = decide (∀ i, i < j + 1 → p i = true) := by
  rw [Bool.eq_iff_iff, Bool.and_eq_true, h, decide_eq_true_eq, decide_eq_true_eq, ← hz]
  exact ⟨fun q => lt_s q.1 q.2, fun q => ⟨fun i hi => q i (by omega), q j (by omega)⟩⟩
/-- key x stands ahead of key y (fl: falling) -/
def nrr (fl x y : Int32) : Prop := if fl = 0 then x < y else y < x
theorem nrr_irr {fl x : Int32} : ¬ nrr fl x x := by
  unfold nrr
  split <;> exact Int32.lt_irrefl
theorem nrr_tr {fl x y z : Int32} (h : nrr fl x y) (h2 : nrr fl y z) : nrr fl x z := by
  unfold nrr at *
  split at h
  · rename_i q; rw [if_pos q] at h2 ⊢; exact Int32.lt_trans h h2
  · rename_i q; rw [if_neg q] at h2 ⊢; exact Int32.lt_trans h2 h
theorem nrr_eq {fl x y : Int32} (h : ¬ nrr fl x y) (h2 : ¬ nrr fl y x) : x = y := by
  unfold nrr at *
  split at h
  · rename_i q; rw [if_pos q] at h2; exact Int32.le_antisymm (Int32.not_lt.mp h2) (Int32.not_lt.mp h)
  · rename_i q; rw [if_neg q] at h2; exact Int32.le_antisymm (Int32.not_lt.mp h) (Int32.not_lt.mp h2)
/-- bs is the place (of the first n) of the candidate that stands ahead of all others; -1: there is none -/
def mBh (cand : Nat → Prop) (fl : Int32) (key : Nat → Int32) (n : Nat) (bs : Int32) : Prop := (bs = -1 ∧ ∀ k, k < n → ¬ cand k) ∨ ∃ k, k < n ∧ bs = nI k ∧ cand k ∧ ∀ k', k' < n → cand k' → ¬ nrr fl (key k') (key k)
theorem mBh.skip {cand : Nat → Prop} {fl bs : Int32} {key : Nat → Int32} {i : Nat} (h : mBh cand fl key i bs) (hn : ¬ cand i) : mBh cand fl key (i + 1) bs := by
  rcases h with h | ⟨k, h1, h2, h3, h4⟩
  · exact Or.inl ⟨h.1, lt_s h.2 hn⟩
  · exact Or.inr ⟨k, by omega, h2, h3, lt_s h4 (fun z => absurd z hn)⟩
theorem mBh.take {cand : Nat → Prop} {fl bs : Int32} {key : Nat → Int32} {i : Nat} (h : mBh cand fl key i bs) (hc : cand i) (hb : bs = -1 ∨ ∃ kb, bs = nI kb ∧ kb < i ∧ nrr fl (key i) (key kb)) (hi : i < 400) : mBh cand fl key (i + 1) (nI i) := by
  refine Or.inr ⟨i, by omega, rfl, hc, lt_s (fun k' hk' hc' hz => ?_) (fun _ => nrr_irr)⟩
  rcases h with h | ⟨k, h1, h2, h3, h4⟩
  · exact h.2 k' hk' hc'
  · rcases hb with hb | ⟨kb, b1, b2, b3⟩
    · exact nI_m1 (by omega) (h2.symm.trans hb)
    · have e : k = kb := (nI_eq (by omega) (by omega)).mp (h2.symm.trans b1)
      subst e
      exact h4 k' hk' hc' (nrr_tr hz b3)
theorem mBh.stay {cand : Nat → Prop} {fl bs : Int32} {key : Nat → Int32} {i kb : Nat} (h : mBh cand fl key i bs) (hb : bs = nI kb) (hk : kb < i) (hn : ¬ nrr fl (key i) (key kb)) (hi : i < 400) : mBh cand fl key (i + 1) (nI kb) := by
  rw [← hb]
  rcases h with h | ⟨k, h1, h2, h3, h4⟩
  · exact absurd (hb.symm.trans h.1) (nI_m1 (by omega))
  · have e : k = kb := (nI_eq (by omega) (by omega)).mp (h2.symm.trans hb)
    subst e
    exact Or.inr ⟨k, by omega, h2, h3, lt_s h4 (fun _ => hn)⟩
/-- the rows of table t of the reference, in the order of the keys: the j-th of n lies at place pi j -/
def ordS (of key : Nat → Int32) (fl : Int32) (N : Nat) (t : Int32) (n : Nat) (pi : Nat → Nat) : Prop := (∀ j, j < n → pi j < N ∧ of (pi j) = t) ∧ (∀ k, k < N → of k = t → ∃ j, j < n ∧ pi j = k) ∧ ∀ i j, i < j → j < n → nrr fl (key (pi i)) (key (pi j))
def nxP (pi : Nat → Nat) (n i : Nat) : Int32 := if i < n then nI (pi i) else -1
theorem bh_first {of key : Nat → Int32} {fl t bs : Int32} {N n r0 : Nat} {pi : Nat → Nat} {R : Int32} (ho : ordS of key fl N t n pi) (hR : R = -1) (hN : N ≤ 400) (h : mBh (fun k => of k = t ∧ (R = -1 ∨ nrr fl (key r0) (key k))) fl key N bs) : bs = nxP pi n 0 := by
  unfold nxP
  rcases h with h | ⟨k, h1, h2, h3, h4⟩
  · rw [h.1]
    by_cases hn : 0 < n
    · exact absurd ⟨(ho.1 0 hn).2, Or.inl hR⟩ (h.2 (pi 0) (ho.1 0 hn).1)
    · rw [if_neg hn]
  · obtain ⟨j, hj, e⟩ := ho.2.1 k h1 h3.1
    rw [if_pos (by omega), h2]
    rcases Nat.eq_zero_or_pos j with hz | hz
    · rw [← e, hz]
    · have h5 := ho.2.2 0 j hz hj
      rw [e] at h5
      exact absurd h5 (h4 (pi 0) (ho.1 0 (by omega)).1 ⟨(ho.1 0 (by omega)).2, Or.inl hR⟩)
theorem bh_next {of key : Nat → Int32} {fl t bs : Int32} {N n i : Nat} {pi : Nat → Nat} {R : Int32} (ho : ordS of key fl N t n pi) (hR : R = nI (pi i)) (hi : i < n) (hN : N ≤ 400) (h : mBh (fun k => of k = t ∧ (R = -1 ∨ nrr fl (key (pi i)) (key k))) fl key N bs) : bs = nxP pi n (i + 1) := by
  have hne : ¬ R = -1 := by rw [hR]; exact nI_m1 (by have := (ho.1 i hi).1; omega)
  unfold nxP
  rcases h with h | ⟨k, h1, h2, h3, h4⟩
  · rw [h.1]
    by_cases hn : i + 1 < n
    · exact absurd ⟨(ho.1 _ hn).2, Or.inr (ho.2.2 i (i + 1) (by omega) hn)⟩ (h.2 (pi (i + 1)) (ho.1 _ hn).1)
    · rw [if_neg hn]
  · obtain ⟨j, hj, e⟩ := ho.2.1 k h1 h3.1
    have h6 := h3.2.resolve_left hne
    have hji : i < j := by
      rcases Nat.lt_trichotomy i j with z | z | z
      · exact z
      · subst z; rw [e] at h6; exact absurd h6 nrr_irr
      · have := ho.2.2 j i z hi
        rw [e] at this
        exact absurd (nrr_tr h6 this) nrr_irr
    rw [if_pos (by omega), h2]
    rcases Nat.lt_or_ge (i + 1) j with z | z
    · have h5 := ho.2.2 (i + 1) j z hj
      rw [e] at h5
      exact absurd h5 (h4 _ (ho.1 (i + 1) (by omega)).1 ⟨(ho.1 _ (by omega)).2, Or.inr (ho.2.2 i (i + 1) (by omega) (by omega))⟩)
    · rw [← e, show j = i + 1 by omega]
theorem nrr_p {fl x y : Int32} (q : fl = 0) (h : x < y) : nrr fl x y := by unfold nrr; rw [if_pos q]; exact h
theorem nrr_n {fl x y : Int32} (q : ¬ fl = 0) (h : y < x) : nrr fl x y := by unfold nrr; rw [if_neg q]; exact h
theorem nrr_pn {fl x y : Int32} (q : fl = 0) (h : y ≤ x) : ¬ nrr fl x y := by unfold nrr; rw [if_pos q]; exact Int32.not_lt.mpr h
theorem nrr_nn {fl x y : Int32} (q : ¬ fl = 0) (h : x ≤ y) : ¬ nrr fl x y := by unfold nrr; rw [if_neg q]; exact Int32.not_lt.mpr h
theorem tRun_min {ks : Nat → Int32} {n : Nat} {k : Int32} : ∀ (m p i : Nat), (∀ j, j < i → tK ks n (p + j) k = true) → tK ks n (p + i) k = false → tRun ks n k m p = min m i := by
  intro m
  induction m with
  | zero => intro p i _ _; simp [tRun]
  | succ m ih =>
    intro p i h he
    cases i with
    | zero => rw [tRun_no (p := p) he]; simp
    | succ i =>
      rw [tRun_yes (p := p) (h 0 (by omega)), ih (p + 1) i (fun j hj => by have := h (j + 1) (by omega); rwa [show p + 1 + j = p + (j + 1) by omega]) (by rwa [show p + 1 + i = p + (i + 1) by omega])]
      omega
theorem tW_col {ks ns : Nat → Int32} {n p : Nat} {a b : Int32} (h : tK ks n p 2 = true) : tW ks ns n p a b = false := by
  cases hw : tW ks ns n p a b with
  | false => rfl
  | true =>
    have h1 := (tW_iff.mp hw).2.1
    rw [(tK_iff.mp h).2] at h1
    exact absurd h1 (by decide)
theorem tl_no {ks ns : Nat → Int32} {n p p1 i most : Nat} {ls : Int32} (hz : tLst ks ns n p = (decide (0 < tRun ks n 2 most p1), tRun ks n 2 most p1, p1 + tRun ks n 2 most p1, ls)) (h : ∀ j, j < i → tK ks n (p1 + j) 2 = true) (he : tK ks n (p1 + i) 2 = false) (hi : i = 0 ∨ most < i) : tSel ks ns n (tLst ks ns n p) = none := by
  rw [hz, tRun_min most p1 i h he]
  unfold tSel
  dsimp only
  by_cases h0 : 0 < min most i
  · rw [if_pos (decide_eq_true h0)]
    have h2 : most < i := by rcases hi with z | z; omega; exact z
    rw [if_neg (fun q => by
      have h3 := q.1
      rw [show min most i = most by omega, tW_col (h most h2)] at h3
      cases h3)]
  · rw [if_neg (by rw [decide_eq_false h0]; decide)]
theorem tl_yes {ks ns : Nat → Int32} {n p p1 i most : Nat} {ls : Int32} (hz : tLst ks ns n p = (decide (0 < tRun ks n 2 most p1), tRun ks n 2 most p1, p1 + tRun ks n 2 most p1, ls)) (h : ∀ j, j < i → tK ks n (p1 + j) 2 = true) (he : tK ks n (p1 + i) 2 = false) (h0 : 0 < i) (hi : i ≤ most) : (tLst ks ns n p).1 = true ∧ (tLst ks ns n p).2.2.1 = p1 + i := by
  rw [hz, tRun_min most p1 i h he, show min most i = i by omega]
  exact ⟨decide_eq_true h0, rfl⟩
/-- where the conditions' tokens stand, as the reference keeps it: from fr to T, for kc conditions behind b -/
def mFT (fr T b kc : Nat) : Prop := (0 < kc → fr = b + 1) ∧ (∀ j, j < kc → fr + 4 * j + 2 < T) ∧ T ≤ fr + 4 * kc ∧ T ≤ 60 ∧ fr + 4 * kc ≤ 64
theorem mFT.of {fr p k : Nat} (h1 : 0 < k → fr = p + 1) (h0 : k = 0 → fr = p) (hp : p + 4 * k ≤ 60) : mFT fr (p + 4 * k) p k := by
  rcases Nat.eq_zero_or_pos k with hz | hz
  · have := h0 hz
    exact ⟨h1, fun j hj => by omega, by omega, hp, by omega⟩
  · have := h1 hz
    exact ⟨h1, fun j hj => by omega, by omega, hp, by omega⟩
theorem tK_le {ks : Nat → Int32} {n p : Nat} {k : Int32} (hp : p ≤ 60) (hn : n ≤ 60) : (if tK ks n p k = true then p + 1 else p) ≤ 60 := by
  by_cases h : tK ks n p k = true
  · have := (tK_iff.mp h).1
    rw [if_pos h]; omega
  · rw [if_neg h]; exact hp
theorem tB_le {ks : Nat → Int32} {n q : Nat} (hq : q + 2 ≤ 60) (hn : n ≤ 60) : tB ks n q ≤ 60 := by
  unfold tB
  have h := tK_le (ks := ks) (k := 1) hq hn
  rw [show q + 2 + 1 = q + 3 by omega] at h
  exact h
theorem ts_none {ks ns : Nat → Int32} {n p r Q : Nat} {ok : Bool} {ls : Int32} (hL : tLst ks ns n p = (ok, r, Q, ls)) (h : ¬ (tW ks ns n Q 7 7 = true ∧ tK ks n (Q + 1) 1 = true ∧ ¬ ns (Q + 1) = -1) ∨ tConds ks ns n 8 8 (tB ks n Q) = none) : tSel ks ns n (tLst ks ns n p) = none := by
  rw [hL]
  unfold tSel
  dsimp only
  by_cases hok : ok = true
  · rw [if_pos hok]
    by_cases h7 : tW ks ns n Q 7 7 = true ∧ tK ks n (Q + 1) 1 = true ∧ ¬ ns (Q + 1) = -1
    · rw [if_pos h7, h.resolve_left (fun z => z h7)]; rfl
    · rw [if_neg h7]
  · rw [if_neg hok]
theorem ts_some {ks ns : Nat → Int32} {n p r Q k : Nat} {ok : Bool} {ls : Int32} (hL : tLst ks ns n p = (ok, r, Q, ls)) (hok : ok = true) (h7 : tW ks ns n Q 7 7 = true ∧ tK ks n (Q + 1) 1 = true ∧ ¬ ns (Q + 1) = -1) (hc : tConds ks ns n 8 8 (tB ks n Q) = some k) : tSel ks ns n (tLst ks ns n p) = if tEnd ks ns n (tB ks n Q + 4 * k) = n then some (((3, ls, ns (Q + 1), tT ks ns n (Q + 2), tW ks ns n (tB ks n Q + 4 * k) 13 13), (0, r, if ls = 6 then 2 else 1, k, tB ks n Q)) : tD) else none := by
  rw [hL]
  unfold tSel
  dsimp only
  rw [if_pos hok, if_pos h7, hc]
  rfl
theorem tp_w {ks ns : Nat → Int32} {n : Nat} {k : Int32} (h0 : ¬ n = 0) (hk : ks 0 = 0) (hv : ns 0 = k) (h1 : ¬ k < 0) (h2 : ¬ 3 < k) : tW ks ns n 0 0 3 = true := tW_iff.mpr ⟨by omega, hk, by rw [hv]; exact h1, by rw [hv]; exact h2⟩
theorem tp_none0 {ks ns : Nat → Int32} {n : Nat} (h : n = 0 ∨ ¬ ks 0 = 0) : tParse ks ns n = none := by
  unfold tParse
  rw [if_neg (fun q => by
    have hw := tW_iff.mp q
    rcases h with z | z
    · omega
    · exact z hw.2.1)]
theorem tp_noFT {ks ns : Nat → Int32} {n : Nat} (h3 : ¬ ns 0 = 3) (hf : ¬ tFT ks ns n 1 = true) : tParse ks ns n = none := by
  unfold tParse
  by_cases hw : tW ks ns n 0 0 3 = true
  · rw [if_pos hw]
    by_cases h0 : ns 0 = 0
    · rw [if_pos h0, if_neg hf]
    · rw [if_neg h0]
      by_cases h1 : ns 0 = 1
      · rw [if_pos h1, if_neg hf]
      · rw [if_neg h1]
        by_cases h2 : ns 0 = 2
        · rw [if_pos h2, if_neg hf]
        · exfalso
          have hz := (tW_iff.mp hw).2.2
          have a1 := Int32.le_iff_toInt_le.mp (Int32.not_lt.mp hz.1)
          have a2 := Int32.le_iff_toInt_le.mp (Int32.not_lt.mp hz.2)
          have e0 : (0 : Int32).toInt = 0 := by decide
          have e3 : (3 : Int32).toInt = 3 := by decide
          have n0 : (ns 0).toInt ≠ 0 := fun z => h0 (toInt_eq z)
          have n1 : (ns 0).toInt ≠ 1 := fun z => h1 (toInt_eq z)
          have n2 : (ns 0).toInt ≠ 2 := fun z => h2 (toInt_eq z)
          have n3 : (ns 0).toInt ≠ 3 := fun z => h3 (toInt_eq z)
          omega
  · rw [if_neg hw]
/-- what is no verb with numbers, or ends not where its numbers end -/
theorem tp_num {ks ns : Nat → Int32} {n i : Nat} (h3 : ¬ ns 0 = 3) (h2 : ¬ ns 0 = 2) (hi : 2 + i ≤ 60) (hrun : ∀ j, j < i → tK ks n (2 + j) 3 = true) (he : tK ks n (2 + i) 3 = false) (hbad : ¬ 2 + i = n ∨ (ns 0 = 0 ∧ ¬ i = 1) ∨ (¬ ns 0 = 0 ∧ ¬ ns 0 = 1) ∨ (ns 0 = 1 ∧ i = 0)) : tParse ks ns n = none := by
  unfold tParse
  by_cases hw : tW ks ns n 0 0 3 = true
  · rw [if_pos hw]
    by_cases h0 : ns 0 = 0
    · rw [if_pos h0]
      by_cases hf : tFT ks ns n 1 = true
      · rw [if_pos hf]
        by_cases h4 : tK ks n 2 3 = true
        · rw [if_pos h4, if_neg (fun z => by
            rcases hbad with y | y | y | y
            · cases i with
              | zero => rw [show 2 + 0 = 2 by rfl, h4] at he; cases he
              | succ i =>
                cases i with
                | zero => omega
                | succ i => have := (tK_iff.mp (hrun 1 (by omega))).1; omega
            · cases i with
              | zero => rw [show 2 + 0 = 2 by rfl, h4] at he; cases he
              | succ i =>
                have := (tK_iff.mp (hrun i (by omega))).1
                omega
            · exact y.1 h0
            · rw [h0] at y; exact absurd y.1 (by decide))]
        · rw [if_neg h4]
      · rw [if_neg hf]
    · rw [if_neg h0]
      by_cases h1 : ns 0 = 1
      · rw [if_pos h1]
        by_cases hf : tFT ks ns n 1 = true
        · rw [if_pos hf, tRun_min 60 2 i hrun he, show min 60 i = i by omega]
          by_cases h5 : 0 < i
          · rw [if_pos h5, if_neg (fun z => by
              rcases hbad with y | y | y | y
              · exact y z
              · exact h0 y.1
              · exact y.2 h1
              · omega)]
          · rw [if_neg h5]
        · rw [if_neg hf]
      · exfalso
        have hz := (tW_iff.mp hw).2.2
        have a1 := Int32.le_iff_toInt_le.mp (Int32.not_lt.mp hz.1)
        have a2 := Int32.le_iff_toInt_le.mp (Int32.not_lt.mp hz.2)
        have e0 : (0 : Int32).toInt = 0 := by decide
        have e3 : (3 : Int32).toInt = 3 := by decide
        have n0 : (ns 0).toInt ≠ 0 := fun z => h0 (toInt_eq z)
        have n1 : (ns 0).toInt ≠ 1 := fun z => h1 (toInt_eq z)
        have n2 : (ns 0).toInt ≠ 2 := fun z => h2 (toInt_eq z)
        have n3 : (ns 0).toInt ≠ 3 := fun z => h3 (toInt_eq z)
        omega
  · rw [if_neg hw]
theorem mFT.none : mFT 0 0 0 0 := ⟨fun z => absurd z (by omega), fun j hj => absurd hj (by omega), by omega, by omega, by omega⟩
theorem tp_cr {ks ns : Nat → Int32} {n : Nat} (hk : ks 0 = 0) (hv : ns 0 = 0) (hf : tFT ks ns n 1 = true) (h2 : tK ks n 2 3 = true) (hn : 2 + 1 = n) : tParse ks ns n = some ((0, -1, ns 1, -1, false), (1, 0, 0, 0, 0)) := by
  rw [tp_0 (tp_w (by omega) hk hv (by decide) (by decide)) hv, if_pos hf, if_pos h2, if_pos hn]
theorem tp_in {ks ns : Nat → Int32} {n i : Nat} (hk : ks 0 = 0) (hv : ns 0 = 1) (hf : tFT ks ns n 1 = true) (hi : 2 + i ≤ 60) (hrun : ∀ j, j < i → tK ks n (2 + j) 3 = true) (he : tK ks n (2 + i) 3 = false) (h0 : 0 < i) (hn : 2 + i = n) : tParse ks ns n = some ((1, -1, ns 1, -1, false), (i, 0, 0, 0, 0)) := by
  rw [tp_1 (tp_w (by omega) hk hv (by decide) (by decide)) hv, if_pos hf, tRun_min 60 2 i hrun he, show min 60 i = i by omega, if_pos h0, if_pos hn]
