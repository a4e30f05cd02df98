/-! what a parse says, and what prepare needs -/
theorem tLst_all {ks ns : Nat → Int32} {n p : Nat} (h : (tLst ks ns n p).2.2.2 = 4) : (tLst ks ns n p).2.1 = 0 := by
  unfold tLst at h ⊢
  by_cases h1 : tW ks ns n p 4 4 = true
  · rw [if_pos h1]
  · rw [if_neg h1] at h ⊢
    by_cases h2 : tW ks ns n p 5 5 = true
    · rw [if_pos h2]
    · rw [if_neg h2] at h ⊢
      by_cases h3 : tW ks ns n p 6 6 = true
      · rw [if_pos h3] at h; exact absurd (show (6 : Int32) = 4 from h) (by decide)
      · rw [if_neg h3] at h; exact absurd (show (-1 : Int32) = 4 from h) (by decide)
theorem tp_ls {ks ns : Nat → Int32} {n : Nat} {dd : tD} (h : tParse ks ns n = some dd) (h4 : dd.1.2.1 = 4) : dd.2.2.1 = 0 := by
  by_cases hW : tW ks ns n 0 0 3 = true
  · by_cases h0 : ns 0 = 0
    · rw [tp_0 hW h0] at h
      split at h
      · split at h
        · split at h
          · cases h; exact absurd (show (-1 : Int32) = 4 from h4) (by decide)
          · cases h
        · cases h
      · cases h
    · by_cases h1 : ns 0 = 1
      · rw [tp_1 hW h1] at h
        split at h
        · split at h
          · split at h
            · cases h; exact absurd (show (-1 : Int32) = 4 from h4) (by decide)
            · cases h
          · cases h
        · cases h
      · by_cases h2 : ns 0 = 2
        · rw [tp_2 hW h2] at h
          split at h
          · obtain ⟨k, -, h⟩ := Option.bind_eq_some_iff.mp h
            split at h
            · cases h; exact absurd (show (-1 : Int32) = 4 from h4) (by decide)
            · cases h
          · cases h
        · unfold tParse at h
          rw [if_pos hW, if_neg h0, if_neg h1, if_neg h2] at h
          unfold tSel at h
          split at h
          · split at h
            · obtain ⟨k, -, h⟩ := Option.bind_eq_some_iff.mp h
              split at h
              · cases h; exact tLst_all h4
              · cases h
            · cases h
          · cases h
  · unfold tParse at h
    rw [if_neg hW] at h
    cases h
/-- every table has at most six columns -/
def colsN (c : Nat → Int32) : Prop := ∀ t, t < 10 → ∃ k, k ≤ 6 ∧ c t = nI k
theorem colOf_nat {c : Nat → Int32} (h : colsN c) (t : Int32) : ∃ k, k ≤ 6 ∧ colOf c t = nI k := by
  unfold colOf
  by_cases h1 : t < 0
  · rw [if_pos h1]; exact ⟨0, by omega, rfl⟩
  · rw [if_neg h1]
    by_cases h2 : (10 : Int32) ≤ t
    · rw [if_pos h2]; exact ⟨0, by omega, rfl⟩
    · rw [if_neg h2]
      rcases pk_ix t (n := 10) (by decide) with z | z | ⟨j, hj, rfl⟩
      · exact absurd z h1
      · exact absurd z h2
      · rw [nI_clamp (by omega)]; exact h j hj
