theorem tS_eq {ks ns : Nat → Int32} {n p : Nat} {wd : Int32} : tS ks ns n p wd = tW ks ns n p wd wd := by
  unfold tS tW
  congr 1
  by_cases h : ns p = wd
  · rw [decide_eq_true h, h]
    simp [Int32.lt_irrefl]
  · rw [decide_eq_false h]
    by_cases h1 : ns p < wd
    · rw [decide_eq_true h1]; rfl
    · rw [decide_eq_false h1]
      by_cases h2 : wd < ns p
      · rw [decide_eq_true h2]; rfl
      · exact absurd (Int32.le_antisymm (Int32.not_lt.mp h2) (Int32.not_lt.mp h1)) h
theorem tW_cmp {ks ns : Nat → Int32} {n p : Nat} : tW ks ns n p 10 12 = (tS ks ns n p 10 || (tS ks ns n p 11 || tS ks ns n p 12)) := by
  by_cases hk : tK ks n p 0 = true
  · unfold tW tS
    rw [hk]
    simp only [Bool.true_and]
    have e10 : (10 : Int32).toInt = 10 := by decide
    have e11 : (11 : Int32).toInt = 11 := by decide
    have e12 : (12 : Int32).toInt = 12 := by decide
    have a1 : ns p < 10 ↔ (ns p).toInt < 10 := by rw [Int32.lt_iff_toInt_lt, e10]
    have a2 : (12 : Int32) < ns p ↔ 12 < (ns p).toInt := by rw [Int32.lt_iff_toInt_lt, e12]
    have b0 : ns p = 10 ↔ (ns p).toInt = 10 := by rw [← Int32.toInt_inj, e10]
    have b1 : ns p = 11 ↔ (ns p).toInt = 11 := by rw [← Int32.toInt_inj, e11]
    have b2 : ns p = 12 ↔ (ns p).toInt = 12 := by rw [← Int32.toInt_inj, e12]
    rw [Bool.eq_iff_iff]
    simp only [Bool.and_eq_true, Bool.not_eq_true', decide_eq_false_iff_not, Bool.or_eq_true, decide_eq_true_eq, a1, a2, b0, b1, b2]
    omega
  · unfold tW tS
    rw [Bool.eq_false_iff.mpr hk]
    rfl
theorem mUp.setF {h : xH} {m j : Nat} {Ks : List Nat} {fs fs' : List Value} {w : Value} (mu : mUp Ks fs fs') (_fm : h m = some (.inr (8, fs'.set j w))) (hj : j ∈ Ks) : mUp Ks fs (fs'.set j w) := mu.set hj
/-- the reference's value of the token at t, over the rows a and b of its cells f -/
def mVal (hk hn f : Nat → Int32) (t a b : Nat) : Int32 := if hk t = 3 then hn t else if 9 < hn t then f (b * 6 + (hn t - 10).toNatClampNeg) else f (a * 6 + (hn t).toNatClampNeg)
/-- a column token names a place within a row, and the row is there -/
def mIn (hk hn : Nat → Int32) (t : Nat) (A B : Int32) (a b : Nat) : Prop := hk t = 3 ∨ (9 < hn t ∧ B = nI b ∧ b < 400 ∧ vp_in (hn t - 10) 6) ∨ (¬ 9 < hn t ∧ A = nI a ∧ a < 400 ∧ vp_in (hn t) 6)
theorem all_step {j : Nat} {b z : Bool} {p : Nat → Bool} (h : b = decide (∀ i, i < j → p i = true)) (hz : p j = z) : (b && z) = decide (∀ i, i < j + 1 → p i = true) := by
  rw [Bool.eq_iff_iff, Bool.and_eq_true, h, decide_eq_true_eq, decide_eq_true_eq, ← hz]
  exact ⟨fun q => lt_s q.1 q.2, fun q => ⟨fun i hi => q i (by omega), q j (by omega)⟩⟩
/-- key x stands ahead of key y (fl: falling) -/
def nrr (fl x y : Int32) : Prop := if fl = 0 then x < y else y < x
theorem nrr_irr {fl x : Int32} : ¬ nrr fl x x := by
  unfold nrr
  split <;> exact Int32.lt_irrefl
theorem nrr_tr {fl x y z : Int32} (h : nrr fl x y) (h2 : nrr fl y z) : nrr fl x z := by
  unfold nrr at *
  split at h
  · rename_i q; rw [if_pos q] at h2 ⊢; exact Int32.lt_trans h h2
  · rename_i q; rw [if_neg q] at h2 ⊢; exact Int32.lt_trans h2 h
theorem nrr_eq {fl x y : Int32} (h : ¬ nrr fl x y) (h2 : ¬ nrr fl y x) : x = y := by
  unfold nrr at *
  split at h
  · rename_i q; rw [if_pos q] at h2; exact Int32.le_antisymm (Int32.not_lt.mp h2) (Int32.not_lt.mp h)
  · rename_i q; rw [if_neg q] at h2; exact Int32.le_antisymm (Int32.not_lt.mp h) (Int32.not_lt.mp h2)
/-- bs is the place (of the first n) of the candidate that stands ahead of all others; -1: there is none -/
def mBh (cand : Nat → Prop) (fl : Int32) (key : Nat → Int32) (n : Nat) (bs : Int32) : Prop := (bs = -1 ∧ ∀ k, k < n → ¬ cand k) ∨ ∃ k, k < n ∧ bs = nI k ∧ cand k ∧ ∀ k', k' < n → cand k' → ¬ nrr fl (key k') (key k)
theorem mBh.skip {cand : Nat → Prop} {fl bs : Int32} {key : Nat → Int32} {i : Nat} (h : mBh cand fl key i bs) (hn : ¬ cand i) : mBh cand fl key (i + 1) bs := by
  rcases h with h | ⟨k, h1, h2, h3, h4⟩
  · exact Or.inl ⟨h.1, lt_s h.2 hn⟩
  · exact Or.inr ⟨k, by omega, h2, h3, lt_s h4 (fun z => absurd z hn)⟩
theorem mBh.take {cand : Nat → Prop} {fl bs : Int32} {key : Nat → Int32} {i : Nat} (h : mBh cand fl key i bs) (hc : cand i) (hb : bs = -1 ∨ ∃ kb, bs = nI kb ∧ kb < i ∧ nrr fl (key i) (key kb)) (hi : i < 400) : mBh cand fl key (i + 1) (nI i) := by
  refine Or.inr ⟨i, by omega, rfl, hc, lt_s (fun k' hk' hc' hz => ?_) (fun _ => nrr_irr)⟩
  rcases h with h | ⟨k, h1, h2, h3, h4⟩
  · exact h.2 k' hk' hc'
  · rcases hb with hb | ⟨kb, b1, b2, b3⟩
    · exact nI_m1 (by omega) (h2.symm.trans hb)
    · have e : k = kb := (nI_eq (by omega) (by omega)).mp (h2.symm.trans b1)
      subst e
      exact h4 k' hk' hc' (nrr_tr hz b3)
theorem mBh.stay {cand : Nat → Prop} {fl bs : Int32} {key : Nat → Int32} {i kb : Nat} (h : mBh cand fl key i bs) (hb : bs = nI kb) (hk : kb < i) (hn : ¬ nrr fl (key i) (key kb)) (hi : i < 400) : mBh cand fl key (i + 1) (nI kb) := by
  rw [← hb]
  rcases h with h | ⟨k, h1, h2, h3, h4⟩
  · exact absurd (hb.symm.trans h.1) (nI_m1 (by omega))
  · have e : k = kb := (nI_eq (by omega) (by omega)).mp (h2.symm.trans hb)
    subst e
    exact Or.inr ⟨k, by omega, h2, h3, lt_s h4 (fun _ => hn)⟩
/-- the rows of table t of the reference, in the order of the keys: the j-th of n lies at place pi j -/
def ordS (of key : Nat → Int32) (fl : Int32) (N : Nat) (t : Int32) (n : Nat) (pi : Nat → Nat) : Prop := (∀ j, j < n → pi j < N ∧ of (pi j) = t) ∧ (∀ k, k < N → of k = t → ∃ j, j < n ∧ pi j = k) ∧ ∀ i j, i < j → j < n → nrr fl (key (pi i)) (key (pi j))
def nxP (pi : Nat → Nat) (n i : Nat) : Int32 := if i < n then nI (pi i) else -1
theorem bh_first {of key : Nat → Int32} {fl t bs : Int32} {N n r0 : Nat} {pi : Nat → Nat} {R : Int32} (ho : ordS of key fl N t n pi) (hR : R = -1) (hN : N ≤ 400) (h : mBh (fun k => of k = t ∧ (R = -1 ∨ nrr fl (key r0) (key k))) fl key N bs) : bs = nxP pi n 0 := by
  unfold nxP
  rcases h with h | ⟨k, h1, h2, h3, h4⟩
  · rw [h.1]
    by_cases hn : 0 < n
    · exact absurd ⟨(ho.1 0 hn).2, Or.inl hR⟩ (h.2 (pi 0) (ho.1 0 hn).1)
    · rw [if_neg hn]
  · obtain ⟨j, hj, e⟩ := ho.2.1 k h1 h3.1
    rw [if_pos (by omega), h2]
    rcases Nat.eq_zero_or_pos j with hz | hz
    · rw [← e, hz]
    · have h5 := ho.2.2 0 j hz hj
      rw [e] at h5
      exact absurd h5 (h4 (pi 0) (ho.1 0 (by omega)).1 ⟨(ho.1 0 (by omega)).2, Or.inl hR⟩)
theorem bh_next {of key : Nat → Int32} {fl t bs : Int32} {N n i : Nat} {pi : Nat → Nat} {R : Int32} (ho : ordS of key fl N t n pi) (hR : R = nI (pi i)) (hi : i < n) (hN : N ≤ 400) (h : mBh (fun k => of k = t ∧ (R = -1 ∨ nrr fl (key (pi i)) (key k))) fl key N bs) : bs = nxP pi n (i + 1) := by
  have hne : ¬ R = -1 := by rw [hR]; exact nI_m1 (by have := (ho.1 i hi).1; omega)
  unfold nxP
  rcases h with h | ⟨k, h1, h2, h3, h4⟩
  · rw [h.1]
    by_cases hn : i + 1 < n
    · exact absurd ⟨(ho.1 _ hn).2, Or.inr (ho.2.2 i (i + 1) (by omega) hn)⟩ (h.2 (pi (i + 1)) (ho.1 _ hn).1)
    · rw [if_neg hn]
  · obtain ⟨j, hj, e⟩ := ho.2.1 k h1 h3.1
    have h6 := h3.2.resolve_left hne
    have hji : i < j := by
      rcases Nat.lt_trichotomy i j with z | z | z
      · exact z
      · subst z; rw [e] at h6; exact absurd h6 nrr_irr
      · have := ho.2.2 j i z hi
        rw [e] at this
        exact absurd (nrr_tr h6 this) nrr_irr
    rw [if_pos (by omega), h2]
    rcases Nat.lt_or_ge (i + 1) j with z | z
    · have h5 := ho.2.2 (i + 1) j z hj
      rw [e] at h5
      exact absurd h5 (h4 _ (ho.1 (i + 1) (by omega)).1 ⟨(ho.1 _ (by omega)).2, Or.inr (ho.2.2 i (i + 1) (by omega) (by omega))⟩)
    · rw [← e, show j = i + 1 by omega]
theorem nrr_p {fl x y : Int32} (q : fl = 0) (h : x < y) : nrr fl x y := by unfold nrr; rw [if_pos q]; exact h
theorem nrr_n {fl x y : Int32} (q : ¬ fl = 0) (h : y < x) : nrr fl x y := by unfold nrr; rw [if_neg q]; exact h
theorem nrr_pn {fl x y : Int32} (q : fl = 0) (h : y ≤ x) : ¬ nrr fl x y := by unfold nrr; rw [if_pos q]; exact Int32.not_lt.mpr h
theorem nrr_nn {fl x y : Int32} (q : ¬ fl = 0) (h : x ≤ y) : ¬ nrr fl x y := by unfold nrr; rw [if_neg q]; exact Int32.not_lt.mpr h
