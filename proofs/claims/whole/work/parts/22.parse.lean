/-! PARSE: what a parse tells of its tokens -/
theorem lc_lt {x y : Int64} : lg_cmp x y < 0 ↔ x < y := by
  unfold lg_cmp
  by_cases h : x > y
  · rw [if_pos h]
    exact ⟨fun z => absurd z (by decide), fun z => absurd (Int64.lt_trans z h) Int64.lt_irrefl⟩
  · rw [if_neg h]
    by_cases h2 : x = y
    · rw [if_pos h2]; exact ⟨fun z => absurd z (by decide), fun z => by rw [h2] at z; exact absurd z Int64.lt_irrefl⟩
    · rw [if_neg h2]
      refine ⟨fun _ => ?_, fun _ => by decide⟩
      rcases Int64.lt_or_eq_of_le (Int64.not_lt.mp h) with z | z
      · exact z
      · exact absurd z h2
theorem lc_gt {x y : Int64} : 0 < lg_cmp x y ↔ y < x := by
  unfold lg_cmp
  by_cases h : x > y
  · rw [if_pos h]; exact ⟨fun _ => h, fun _ => by decide⟩
  · rw [if_neg h]
    by_cases h2 : x = y
    · rw [if_pos h2]; exact ⟨fun z => absurd z (by decide), fun z => absurd z h⟩
    · rw [if_neg h2]; exact ⟨fun z => absurd z (by decide), fun z => absurd z h⟩
theorem lc_in {x a b : Int32} {A B : Int64} (hA : a.toInt64 = A) (hB : b.toInt64 = B) : (!decide (lg_cmp x.toInt64 A < 0) && !decide (0 < lg_cmp x.toInt64 B)) = (!decide (x < a) && !decide (b < x)) := by
  have h1 : lg_cmp x.toInt64 A < 0 ↔ x < a := by rw [lc_lt, ← hA, Int64.lt_iff_toInt_lt, Int32.lt_iff_toInt_lt, Int32.toInt_toInt64, Int32.toInt_toInt64]
  have h2 : 0 < lg_cmp x.toInt64 B ↔ b < x := by rw [lc_gt, ← hB, Int64.lt_iff_toInt_lt, Int32.lt_iff_toInt_lt, Int32.toInt_toInt64, Int32.toInt_toInt64]
  simp only [h1, h2]
/-- the reference's look at a token: if it is a column, the column is there -/
def mCol (ks ns c : Nat → Int32) (n1 n2 : Int32) (i : Nat) : Bool := if ks i = 2 then opThere 2 (ns i) (colOf c n1) (colOf c n2) else true
theorem nine {x : Int32} : 9 < x ↔ 10 ≤ x := by
  rw [Int32.lt_iff_toInt_lt, Int32.le_iff_toInt_le, show (9 : Int32).toInt = 9 by decide, show (10 : Int32).toInt = 10 by decide]
  omega
theorem sub10 {x : Int32} (h : 10 ≤ x) : (x - 10).toInt = x.toInt - 10 := by
  rw [Int32.le_iff_toInt_le, show (10 : Int32).toInt = 10 by decide] at h
  have h3 := Int32.toInt_lt x
  rw [Int32.toInt_sub, show (10 : Int32).toInt = 10 by decide]
  rw [Int.bmod_eq_of_le] <;> omega
theorem mc_no {ks ns c : Nat → Int32} {n1 n2 : Int32} {i : Nat} (h : ¬ ks i = 2) : mCol ks ns c n1 n2 i = true := by unfold mCol; rw [if_neg h]
theorem mc_m {ks ns c : Nat → Int32} {n1 n2 : Int32} {i : Nat} (h : ks i = 2) (h9 : 9 < ns i) (h2 : n2 = -1) : mCol ks ns c n1 n2 i = false := by
  unfold mCol opThere
  have h10 := nine.mp h9
  have h0 : (0 : Int32) ≤ ns i - 10 := by
    rw [Int32.le_iff_toInt_le, sub10 h10]
    rw [Int32.le_iff_toInt_le, show (10 : Int32).toInt = 10 by decide] at h10
    rw [show (0 : Int32).toInt = 0 by decide]; omega
  rw [if_pos h, if_neg (by decide), if_pos h10, h2, show colOf c (-1) = 0 by unfold colOf; rw [if_pos (by decide)], decide_eq_true h0]
  rfl
theorem mc_2 {ks ns c : Nat → Int32} {n1 n2 : Int32} {i t2 : Nat} (h : ks i = 2) (h9 : 9 < ns i) (h2 : n2 = nI t2) (ht : t2 < 10) : mCol ks ns c n1 n2 i = !decide (c t2 ≤ ns i - 10) := by
  unfold mCol opThere
  rw [if_pos h, if_neg (by decide), if_pos (nine.mp h9), h2]
  unfold colOf
  rw [if_neg (nI_pos (by omega)), if_neg (show ¬ (10 : Int32) ≤ nI t2 from nI_ge (b := 10) ht (by decide)), nI_clamp (by omega)]
theorem mc_1 {ks ns c : Nat → Int32} {n1 n2 : Int32} {i t1 : Nat} (h : ks i = 2) (h9 : ¬ 9 < ns i) (h1 : n1 = nI t1) (ht : t1 < 10) : mCol ks ns c n1 n2 i = !decide (c t1 ≤ ns i) := by
  unfold mCol opThere
  rw [if_pos h, if_neg (by decide), if_neg (fun z => h9 (nine.mpr z)), h1]
  unfold colOf
  rw [if_neg (nI_pos (by omega)), if_neg (show ¬ (10 : Int32) ≤ nI t1 from nI_ge (b := 10) ht (by decide)), nI_clamp (by omega)]
theorem colOf_nI {c : Nat → Int32} {t : Nat} (ht : t < 10) : colOf c (nI t) = c t := by
  unfold colOf
  rw [if_neg (nI_pos (by omega)), if_neg (show ¬ (10 : Int32) ≤ nI t from nI_ge (b := 10) ht (by decide)), nI_clamp (by omega)]
theorem tRun_all {ks : Nat → Int32} {n : Nat} {k : Int32} : ∀ (m p : Nat), tRun ks n k m p ≤ m ∧ ∀ j, j < tRun ks n k m p → tK ks n (p + j) k = true := by
  intro m
  induction m with
  | zero => intro p; exact ⟨Nat.le_refl _, fun j hj => absurd hj (Nat.not_lt_zero j)⟩
  | succ m ih =>
    intro p
    by_cases h : tK ks n p k = true
    · rw [tRun_yes h]
      obtain ⟨h1, h2⟩ := ih (p + 1)
      refine ⟨by omega, fun j hj => ?_⟩
      cases j with
      | zero => exact h
      | succ j => have := h2 j (by omega); rwa [show p + 1 + j = p + (j + 1) by omega] at this
    · rw [tRun_no (Bool.eq_false_iff.mpr h)]
      exact ⟨by omega, fun j hj => absurd hj (Nat.not_lt_zero j)⟩
theorem tc_all {ks ns : Nat → Int32} {n : Nat} : ∀ (m : Nat) (lk : Int32) (p k : Nat), tConds ks ns n m lk p = some k → k ≤ m ∧ ∀ j, j < k → ks (p + 4 * j) = 0 ∧ tCond ks ns n (p + 4 * j + 1) = true := by
  intro m
  induction m with
  | zero =>
    intro lk p k h
    unfold tConds at h
    have := Option.some.inj h
    subst this
    exact ⟨Nat.le_refl _, fun j hj => absurd hj (Nat.not_lt_zero j)⟩
  | succ m ih =>
    intro lk p k h
    unfold tConds at h
    by_cases h1 : tW ks ns n p lk lk = true
    · rw [if_pos h1] at h
      by_cases h2 : tCond ks ns n (p + 1) = true
      · rw [if_pos h2] at h
        obtain ⟨k', h3, rfl⟩ := Option.map_eq_some_iff.mp h
        obtain ⟨h4, h5⟩ := ih 9 (p + 4) k' h3
        refine ⟨by omega, fun j hj => ?_⟩
        cases j with
        | zero => exact ⟨(tW_iff.mp h1).2.1, h2⟩
        | succ j => have := h5 j (by omega); rwa [show p + 4 + 4 * j = p + 4 * (j + 1) by omega] at this
      · rw [if_neg h2] at h; cases h
    · rw [if_neg h1] at h
      have := Option.some.inj h
      subst this
      exact ⟨by omega, fun j hj => absurd hj (Nat.not_lt_zero j)⟩
theorem tl_shape {ks ns : Nat → Int32} {n r Q : Nat} {ls : Int32} (h : tLst ks ns n 1 = (true, r, Q, ls)) : (tW ks ns n 1 4 4 = true ∧ ls = 4 ∧ r = 0 ∧ Q = 2) ∨ (tW ks ns n 1 5 5 = true ∧ ls = 5 ∧ r = 0 ∧ Q = 2) ∨ (tW ks ns n 1 6 6 = true ∧ ls = 6 ∧ r = 1 ∧ Q = 3 ∧ tK ks n 2 2 = true) ∨ (ls = -1 ∧ 0 < r ∧ r ≤ 8 ∧ Q = 1 + r ∧ ∀ j, j < r → tK ks n (1 + j) 2 = true) := by
  unfold tLst at h
  by_cases h1 : tW ks ns n 1 4 4 = true
  · rw [if_pos h1] at h
    simp only [Prod.mk.injEq] at h
    exact Or.inl ⟨h1, h.2.2.2.symm, h.2.1.symm, h.2.2.1.symm⟩
  · rw [if_neg h1] at h
    by_cases h2 : tW ks ns n 1 5 5 = true
    · rw [if_pos h2] at h
      simp only [Prod.mk.injEq] at h
      exact Or.inr (Or.inl ⟨h2, h.2.2.2.symm, h.2.1.symm, h.2.2.1.symm⟩)
    · rw [if_neg h2] at h
      by_cases h3 : tW ks ns n 1 6 6 = true
      · rw [if_pos h3] at h
        simp only [Prod.mk.injEq, decide_eq_true_eq] at h
        obtain ⟨a1, a2⟩ := tRun_all (ks := ks) (n := n) (k := 2) 1 (1 + 1)
        have h4 : r = 1 := by omega
        refine Or.inr (Or.inr (Or.inl ⟨h3, h.2.2.2.symm, h4, by omega, ?_⟩))
        exact a2 0 (by omega)
      · rw [if_neg h3] at h
        simp only [Prod.mk.injEq, decide_eq_true_eq] at h
        obtain ⟨a1, a2⟩ := tRun_all (ks := ks) (n := n) (k := 2) 8 1
        exact Or.inr (Or.inr (Or.inr ⟨h.2.2.2.symm, by omega, by omega, by omega, fun j hj => a2 j (by omega)⟩))
/-- what a parse tells of its tokens: CREATE, INSERT, DELETE, SELECT -/
def sCre (ks ns : Nat → Int32) (n : Nat) (dd : tD) : Prop := ns 0 = 0 ∧ n = 3 ∧ tK ks n 1 1 = true ∧ tK ks n 2 3 = true ∧ ks 0 = 0 ∧ dd = ((0, -1, ns 1, -1, false), (1, 0, 0, 0, 0))
def sIns (ks ns : Nat → Int32) (n : Nat) (dd : tD) : Prop := ∃ i, ns 0 = 1 ∧ n = 2 + i ∧ 0 < i ∧ tK ks n 1 1 = true ∧ (∀ j, j < i → tK ks n (2 + j) 3 = true) ∧ ks 0 = 0 ∧ dd = ((1, -1, ns 1, -1, false), (i, 0, 0, 0, 0))
def sDel (ks ns : Nat → Int32) (n : Nat) (dd : tD) : Prop := ∃ k, ns 0 = 2 ∧ n = 2 + 4 * k ∧ tK ks n 1 1 = true ∧ (∀ j, j < k → ks (2 + 4 * j) = 0 ∧ tCond ks ns n (2 + 4 * j + 1) = true) ∧ k ≤ 8 ∧ ks 0 = 0 ∧ dd = ((2, -1, ns 1, -1, false), (0, 0, 0, k, 2))
def sSel (ks ns : Nat → Int32) (n : Nat) (dd : tD) : Prop := ∃ r Q k ls, ns 0 = 3 ∧ tLst ks ns n 1 = (true, r, Q, ls) ∧ ks Q = 0 ∧ tK ks n (Q + 1) 1 = true ∧ (∀ j, j < k → ks (tB ks n Q + 4 * j) = 0 ∧ tCond ks ns n (tB ks n Q + 4 * j + 1) = true) ∧ k ≤ 8 ∧ tEnd ks ns n (tB ks n Q + 4 * k) = n ∧ ks 0 = 0 ∧ dd = ((3, ls, ns (Q + 1), tT ks ns n (Q + 2), tW ks ns n (tB ks n Q + 4 * k) 13 13), (0, r, if ls = 6 then 2 else 1, k, tB ks n Q))
def tShape (ks ns : Nat → Int32) (n : Nat) (dd : tD) : Prop := sCre ks ns n dd ∨ sIns ks ns n dd ∨ sDel ks ns n dd ∨ sSel ks ns n dd
theorem tp_shape {ks ns : Nat → Int32} {n : Nat} {dd : tD} (h : tParse ks ns n = some dd) : tShape ks ns n dd := by
  by_cases hw : tW ks ns n 0 0 3 = true
  · have hk := (tW_iff.mp hw).2.1
    by_cases h0 : ns 0 = 0
    · rw [tp_0 hw h0] at h
      by_cases h1 : tFT ks ns n 1 = true
      · rw [if_pos h1] at h
        by_cases h2 : tK ks n 2 3 = true
        · rw [if_pos h2] at h
          by_cases h3 : 3 = n
          · rw [if_pos h3] at h
            exact Or.inl ⟨h0, h3.symm, (tFT_iff.mp h1).1, h2, hk, (Option.some.inj h).symm⟩
          · rw [if_neg h3] at h; cases h
        · rw [if_neg h2] at h; cases h
      · rw [if_neg h1] at h; cases h
    · by_cases h1 : ns 0 = 1
      · rw [tp_1 hw h1] at h
        by_cases hf : tFT ks ns n 1 = true
        · rw [if_pos hf] at h
          by_cases h2 : 0 < tRun ks n 3 60 2
          · rw [if_pos h2] at h
            by_cases h3 : 2 + tRun ks n 3 60 2 = n
            · rw [if_pos h3] at h
              exact Or.inr (Or.inl ⟨_, h1, h3.symm, h2, (tFT_iff.mp hf).1, (tRun_all 60 2).2, hk, (Option.some.inj h).symm⟩)
            · rw [if_neg h3] at h; cases h
          · rw [if_neg h2] at h; cases h
        · rw [if_neg hf] at h; cases h
      · by_cases h2 : ns 0 = 2
        · rw [tp_2 hw h2] at h
          by_cases hf : tFT ks ns n 1 = true
          · rw [if_pos hf] at h
            obtain ⟨k, hc, h⟩ := Option.bind_eq_some_iff.mp h
            by_cases h3 : 2 + 4 * k = n
            · rw [if_pos h3] at h
              exact Or.inr (Or.inr (Or.inl ⟨k, h2, h3.symm, (tFT_iff.mp hf).1, (tc_all 8 8 2 k hc).2, (tc_all 8 8 2 k hc).1, hk, (Option.some.inj h).symm⟩))
            · rw [if_neg h3] at h; cases h
          · rw [if_neg hf] at h; cases h
        · have h3 : ns 0 = 3 := by
            have hz := (tW_iff.mp hw).2.2
            have a1 := Int32.le_iff_toInt_le.mp (Int32.not_lt.mp hz.1)
            have a2 := Int32.le_iff_toInt_le.mp (Int32.not_lt.mp hz.2)
            have e0 : (0 : Int32).toInt = 0 := by decide
            have e3 : (3 : Int32).toInt = 3 := by decide
            have n0 : (ns 0).toInt ≠ 0 := fun z => h0 (toInt_eq z)
            have n1 : (ns 0).toInt ≠ 1 := fun z => h1 (toInt_eq z)
            have n2 : (ns 0).toInt ≠ 2 := fun z => h2 (toInt_eq z)
            exact toInt_eq (by omega)
          rw [tp_3 hw h3] at h
          obtain ⟨ok, r, Q, ls, hL⟩ : ∃ ok r Q ls, tLst ks ns n 1 = (ok, r, Q, ls) := ⟨_, _, _, _, rfl⟩
          rw [tSel_eq hL] at h
          by_cases hok : ok = true
          · rw [if_pos hok] at h
            by_cases h7 : tW ks ns n Q 7 7 = true ∧ tK ks n (Q + 1) 1 = true ∧ ¬ ns (Q + 1) = -1
            · rw [if_pos h7] at h
              obtain ⟨k, hc, h⟩ := Option.bind_eq_some_iff.mp h
              by_cases he : tEnd ks ns n (tB ks n Q + 4 * k) = n
              · rw [if_pos he] at h
                rw [hok] at hL
                exact Or.inr (Or.inr (Or.inr ⟨r, Q, k, ls, h3, hL, (tW_iff.mp h7.1).2.1, h7.2.1, (tc_all _ _ _ k hc).2, (tc_all _ _ _ k hc).1, he, hk, (Option.some.inj h).symm⟩))
              · rw [if_neg he] at h; cases h
            · rw [if_neg h7] at h; cases h
          · rw [if_neg hok] at h; cases h
  · unfold tParse at h
    rw [if_neg hw] at h
    cases h
/-- every token's number is one of its kind's -/
def tokS (ks ns : Nat → Int32) (n : Nat) : Prop := ∀ i, i < n → tokOK (ks i) (ns i) = true
theorem tok_tab {ks ns : Nat → Int32} {n q : Nat} (hv : tokS ks ns n) (h : tK ks n q 1 = true) : ∃ t, t < 10 ∧ ns q = nI t := by
  obtain ⟨h1, h2⟩ := tK_iff.mp h
  have h3 := hv q h1
  rw [h2] at h3
  unfold tokOK at h3
  rw [if_neg (by decide), if_pos rfl, Bool.and_eq_true] at h3
  simp only [Bool.not_eq_true', decide_eq_false_iff_not] at h3
  rcases pk_ix (ns q) (n := 10) (by decide) with z | z | ⟨j, hj, z⟩
  · exact absurd z h3.1
  · exact absurd z h3.2
  · exact ⟨j, hj, z⟩
theorem tT_tab {ks ns : Nat → Int32} {n q : Nat} (hv : tokS ks ns n) : tT ks ns n q = -1 ∨ ∃ t, t < 10 ∧ tT ks ns n q = nI t := by
  unfold tT
  by_cases h : tK ks n q 1 = true
  · rw [if_pos h]; exact Or.inr (tok_tab hv h)
  · rw [if_neg h]; exact Or.inl rfl
/-- the tables that a parse names -/
theorem tp_tabs {ks ns : Nat → Int32} {n : Nat} {dd : tD} (hv : tokS ks ns n) (h : tParse ks ns n = some dd) : (∃ t, t < 10 ∧ dd.1.2.2.1 = nI t) ∧ (dd.1.2.2.2.1 = -1 ∨ ∃ t, t < 10 ∧ dd.1.2.2.2.1 = nI t) ∧ dd.1.1 = ns 0 := by
  rcases tp_shape h with ⟨h0, -, h1, -, -, e⟩ | ⟨i, h0, -, -, h1, -, -, e⟩ | ⟨k, h0, -, h1, -, -, -, e⟩ | ⟨r, Q, k, ls, h0, -, -, h1, -, -, -, -, e⟩
  · rw [e]; exact ⟨tok_tab hv h1, Or.inl rfl, h0.symm⟩
  · rw [e]; exact ⟨tok_tab hv h1, Or.inl rfl, h0.symm⟩
  · rw [e]; exact ⟨tok_tab hv h1, Or.inl rfl, h0.symm⟩
  · rw [e]; exact ⟨tok_tab hv h1, tT_tab hv, h0.symm⟩
theorem tp_two {ks ns : Nat → Int32} {n : Nat} {dd : tD} (h : tParse ks ns n = some dd) : 2 ≤ n := by
  rcases tp_shape h with ⟨-, h1, -⟩ | ⟨i, -, h1, -⟩ | ⟨k, -, h1, -⟩ | ⟨r, Q, k, ls, -, hL, -, h1, -⟩
  · omega
  · omega
  · omega
  · have h2 := (tK_iff.mp h1).1
    rcases tl_shape hL with z | z | z | z <;> omega
theorem mUp.mono {Ks Js : List Nat} {fs fs' : List Value} (h : mUp Ks fs fs') (hs : ∀ k ∈ Ks, k ∈ Js) : mUp Js fs fs' := ⟨h.1, fun k hk => h.2 k (fun z => hk (hs k z))⟩
